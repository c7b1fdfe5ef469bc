def f_X11_buys (N : Nat) (iY : Nat → Int32) (sY : Nat → Nat → Int32) (tY : Nat → Nat → Int64) (jY : Nat → Int64) (p1 : Int32) (p2 : Int32) (p3 : Int32) : Option ((Nat → Nat → Int32)) :=
  ck (((47 : Int32) + ((5 : Int32) * p3)) + p2) 457 (nv (((sY 6) (ix (((47 : Int32) + ((5 : Int32) * p3)) + p2))) - 1) (fun n_2 => ck (((143 : Int32) + ((5 : Int32) * p3)) + p2) 457 (ck (((143 : Int32) + ((5 : Int32) * p3)) + p2) 457 (nv (upd (sY 6) (ix (((143 : Int32) + ((5 : Int32) * p3)) + p2)) (((sY 6) (ix (((143 : Int32) + ((5 : Int32) * p3)) + p2))) - 1)) (fun g_5 => ck (((178 : Int32) + ((5 : Int32) * p1)) + p2) 457 (ck (((178 : Int32) + ((5 : Int32) * p1)) + p2) 457 (nv (upd g_5 (ix (((178 : Int32) + ((5 : Int32) * p1)) + p2)) ((g_5 (ix (((178 : Int32) + ((5 : Int32) * p1)) + p2))) - 1)) (fun g_8 => ck ((136 : Int32) + p1) 457 (ck ((136 : Int32) + p1) 457 (nv (upd g_8 (ix ((136 : Int32) + p1)) ((g_8 (ix ((136 : Int32) + p1))) - n_2)) (fun g_11 => ck ((136 : Int32) + p3) 457 (ck ((136 : Int32) + p3) 457 (nv (upd g_11 (ix ((136 : Int32) + p3)) ((g_11 (ix ((136 : Int32) + p3))) + n_2)) (fun g_14 => nv (upd g_14 132 ((g_14 132) + 1)) (fun g_15 => bd (f_X11_isVeiled N iY (va_up sY 6 g_15) tY jY p1) (fun r_16 => (if r_16 = 0 then bd (f_X11_isVeiled N iY (va_up sY 6 g_15) tY jY p3) (fun r_19 => (if r_19 = 0 then ck (((227 : Int32) + ((7 : Int32) * p1)) + p3) 457 (ck (((227 : Int32) + ((7 : Int32) * p1)) + p3) 457 (nv (upd g_15 (ix (((227 : Int32) + ((7 : Int32) * p1)) + p3)) ((g_15 (ix (((227 : Int32) + ((7 : Int32) * p1)) + p3))) + 1)) (fun g_24 => ck (((227 : Int32) + ((7 : Int32) * p3)) + p1) 457 (ck (((227 : Int32) + ((7 : Int32) * p3)) + p1) 457 (nv (upd g_24 (ix (((227 : Int32) + ((7 : Int32) * p3)) + p1)) ((g_24 (ix (((227 : Int32) + ((7 : Int32) * p3)) + p1))) + 1)) (fun g_27 => ck (((227 : Int32) + ((7 : Int32) * p1)) + p3) 457 ((if (g_27 (ix (((227 : Int32) + ((7 : Int32) * p1)) + p3))) < (g_27 2) then some (va_up sY 6 g_27) else bd (f_X11_meets N iY (va_up sY 6 g_27) tY jY p1 p3) (fun sY_30 => some sY_30))))))))) else some (va_up sY 6 g_15))) else some (va_up sY 6 g_15))))))))))))))))))
set_option maxHeartbeats 4000000 in
set_option maxRecDepth 100000 in
theorem c_X11_buys (l : Launch) (G : GT) (N : Nat) (uY : Nat → Nat) (iY : Nat → Int32) (sY : Nat → Nat → Int32) (tY : Nat → Nat → Int64) (jY : Nat → Int64) (p1 : Int32) (p2 : Int32) (p3 : Int32) {sY' : Nat → Nat → Int32} (hf : f_X11_buys N iY sY tY jY p1 p2 p3 = some sY') : CV l G yX11_buys cX11_buys 5 3 [.ref (uY 0), .int p1, .int p2, .int p3] (gY G uY iY sY tY jY) (gY G uY iY sY' tY jY) := by
  refine CV.of (by decide) (Nat.le_of_ble_eq_true rfl) ?_
  intro p e s m args below meth c A X hA hP hD hS ls hl
  have hl : lv_has ls 5 [(0, .ref (uY 0)), (1, .int p1), (2, .int p2), (3, .int p3)] := hl
  generalize hQ : MQ below (QV G A (gY G uY iY sY' tY jY)) args s 0 0 A = QQ
  unfold f_X11_buys at hf
  refine lv_aload_n X.hx X.hb dX11_buys_0 rfl (lv_at hl 0 rfl) ?_
  refine gf_X11_33 X hP 0 rfl (v := .ref (uY 7)) rfl dX11_buys_1 ?_
  refine lv_bipush (v := 47) X.hx X.hb dX11_buys_4 (by decide) ?_
  refine lv_iconst (v := 5) X.hx X.hb dX11_buys_6 (by decide) ?_
  refine lv_iload_n X.hx X.hb dX11_buys_7 rfl (lv_at hl 3 rfl) ?_
  refine lv_imul X.hx X.hb dX11_buys_8 ?_
  refine lv_iadd X.hx X.hb dX11_buys_9 ?_
  refine lv_iload_n X.hx X.hb dX11_buys_10 rfl (lv_at hl 2 rfl) ?_
  refine lv_iadd X.hx X.hb dX11_buys_11 ?_
  obtain ⟨hi_1, hf⟩ := ck_i hf
  refine r_iald X hP 2 (f := (sY 6)) rfl hi_1 dX11_buys_12 ?_
  refine lv_iconst (v := 1) X.hx X.hb dX11_buys_13 (by decide) ?_
  refine lv_isub X.hx X.hb dX11_buys_14 ?_
  obtain ⟨n_2, en_2, hf⟩ := nv_i hf
  refine r_nm en_2 ?_
  refine lv_istore (lv' := [(4, .int n_2), (0, .ref (uY 0)), (1, .int p1), (2, .int p2), (3, .int p3)]) X.hx X.hb dX11_buys_15 hl (by decide) rfl (fun ls hl => ?_)
  refine lv_aload_n X.hx X.hb dX11_buys_17 rfl (lv_at hl 1 rfl) ?_
  refine gf_X11_33 X hP 0 rfl (v := .ref (uY 7)) rfl dX11_buys_18 ?_
  refine lv_sipush (v := 143) X.hx X.hb dX11_buys_21 (by decide) ?_
  refine lv_iconst (v := 5) X.hx X.hb dX11_buys_24 (by decide) ?_
  refine lv_iload_n X.hx X.hb dX11_buys_25 rfl (lv_at hl 4 rfl) ?_
  refine lv_imul X.hx X.hb dX11_buys_26 ?_
  refine lv_iadd X.hx X.hb dX11_buys_27 ?_
  refine lv_iload_n X.hx X.hb dX11_buys_28 rfl (lv_at hl 3 rfl) ?_
  refine lv_iadd X.hx X.hb dX11_buys_29 ?_
  refine lv_dup2_11 X.hx X.hb dX11_buys_30 rfl rfl ?_
  obtain ⟨hi_3, hf⟩ := ck_i hf
  refine r_iald X hP 2 (f := (sY 6)) rfl hi_3 dX11_buys_31 ?_
  refine lv_iconst (v := 1) X.hx X.hb dX11_buys_32 (by decide) ?_
  refine lv_isub X.hx X.hb dX11_buys_33 ?_
  obtain ⟨hi_4, hf⟩ := ck_i hf
  obtain ⟨g_5, eg_5, hf⟩ := nv_i hf
  refine r_iast X hP hD hS 2 (f := (sY 6)) rfl hi_4 (wo := (gY G uY iY (va_up sY 6 g_5) tY jY)) (by subst eg_5; rfl) dX11_buys_34 (fun H locs hP hD hS => ?_)
  refine lv_aload_n X.hx X.hb dX11_buys_35 rfl (lv_at hl 1 rfl) ?_
  refine gf_X11_33 X hP 0 rfl (v := .ref (uY 7)) rfl dX11_buys_36 ?_
  refine lv_sipush (v := 178) X.hx X.hb dX11_buys_39 (by decide) ?_
  refine lv_iconst (v := 5) X.hx X.hb dX11_buys_42 (by decide) ?_
  refine lv_iload_n X.hx X.hb dX11_buys_43 rfl (lv_at hl 2 rfl) ?_
  refine lv_imul X.hx X.hb dX11_buys_44 ?_
  refine lv_iadd X.hx X.hb dX11_buys_45 ?_
  refine lv_iload_n X.hx X.hb dX11_buys_46 rfl (lv_at hl 3 rfl) ?_
  refine lv_iadd X.hx X.hb dX11_buys_47 ?_
  refine lv_dup2_11 X.hx X.hb dX11_buys_48 rfl rfl ?_
  obtain ⟨hi_6, hf⟩ := ck_i hf
  refine r_iald X hP 2 (f := g_5) rfl hi_6 dX11_buys_49 ?_
  refine lv_iconst (v := 1) X.hx X.hb dX11_buys_50 (by decide) ?_
  refine lv_isub X.hx X.hb dX11_buys_51 ?_
  obtain ⟨hi_7, hf⟩ := ck_i hf
  obtain ⟨g_8, eg_8, hf⟩ := nv_i hf
  refine r_iast X hP hD hS 2 (f := g_5) rfl hi_7 (wo := (gY G uY iY (va_up sY 6 g_8) tY jY)) (by subst eg_8; rfl) dX11_buys_52 (fun H locs hP hD hS => ?_)
  refine lv_aload_n X.hx X.hb dX11_buys_53 rfl (lv_at hl 1 rfl) ?_
  refine gf_X11_33 X hP 0 rfl (v := .ref (uY 7)) rfl dX11_buys_54 ?_
  refine lv_sipush (v := 136) X.hx X.hb dX11_buys_57 (by decide) ?_
  refine lv_iload_n X.hx X.hb dX11_buys_60 rfl (lv_at hl 2 rfl) ?_
  refine lv_iadd X.hx X.hb dX11_buys_61 ?_
  refine lv_dup2_11 X.hx X.hb dX11_buys_62 rfl rfl ?_
  obtain ⟨hi_9, hf⟩ := ck_i hf
  refine r_iald X hP 2 (f := g_8) rfl hi_9 dX11_buys_63 ?_
  refine lv_iload X.hx X.hb dX11_buys_64 (lv_at hl 0 rfl) ?_
  refine lv_isub X.hx X.hb dX11_buys_66 ?_
  obtain ⟨hi_10, hf⟩ := ck_i hf
  obtain ⟨g_11, eg_11, hf⟩ := nv_i hf
  refine r_iast X hP hD hS 2 (f := g_8) rfl hi_10 (wo := (gY G uY iY (va_up sY 6 g_11) tY jY)) (by subst eg_11; rfl) dX11_buys_67 (fun H locs hP hD hS => ?_)
  refine lv_aload_n X.hx X.hb dX11_buys_68 rfl (lv_at hl 1 rfl) ?_
  refine gf_X11_33 X hP 0 rfl (v := .ref (uY 7)) rfl dX11_buys_69 ?_
  refine lv_sipush (v := 136) X.hx X.hb dX11_buys_72 (by decide) ?_
  refine lv_iload_n X.hx X.hb dX11_buys_75 rfl (lv_at hl 4 rfl) ?_
  refine lv_iadd X.hx X.hb dX11_buys_76 ?_
  refine lv_dup2_11 X.hx X.hb dX11_buys_77 rfl rfl ?_
  obtain ⟨hi_12, hf⟩ := ck_i hf
  refine r_iald X hP 2 (f := g_11) rfl hi_12 dX11_buys_78 ?_
  refine lv_iload X.hx X.hb dX11_buys_79 (lv_at hl 0 rfl) ?_
  refine lv_iadd X.hx X.hb dX11_buys_81 ?_
  obtain ⟨hi_13, hf⟩ := ck_i hf
  obtain ⟨g_14, eg_14, hf⟩ := nv_i hf
  refine r_iast X hP hD hS 2 (f := g_11) rfl hi_13 (wo := (gY G uY iY (va_up sY 6 g_14) tY jY)) (by subst eg_14; rfl) dX11_buys_82 (fun H locs hP hD hS => ?_)
  refine lv_aload_n X.hx X.hb dX11_buys_83 rfl (lv_at hl 1 rfl) ?_
  refine gf_X11_33 X hP 0 rfl (v := .ref (uY 7)) rfl dX11_buys_84 ?_
  refine lv_sipush (v := 132) X.hx X.hb dX11_buys_87 (by decide) ?_
  refine lv_dup2_11 X.hx X.hb dX11_buys_90 rfl rfl ?_
  refine r_iald X hP 2 (f := g_14) rfl (vp_c rfl) dX11_buys_91 ?_
  refine W.eq (g2 := F0 m 92 ls [.int (g_14 132), .int 132, .ref (uY 7)]) rfl ?_
  refine lv_iconst (v := 1) X.hx X.hb dX11_buys_92 (by decide) ?_
  refine lv_iadd X.hx X.hb dX11_buys_93 ?_
  obtain ⟨g_15, eg_15, hf⟩ := nv_i hf
  refine r_iast X hP hD hS 2 (f := g_14) rfl (vp_c rfl) (wo := (gY G uY iY (va_up sY 6 g_15) tY jY)) (by subst eg_15; rfl) dX11_buys_94 (fun H locs hP hD hS => ?_)
  refine lv_aload_n X.hx X.hb dX11_buys_95 rfl (lv_at hl 1 rfl) ?_
  refine lv_iload_n X.hx X.hb dX11_buys_96 rfl (lv_at hl 2 rfl) ?_
  obtain ⟨r_16, hc_17, hf⟩ := bd_i hf
  refine r_wvi (As := [.int p1]) (rest := []) X sm_X11_293 (c_X11_isVeiled l G N uY iY (va_up sY 6 g_15) tY jY p1 hc_17) hP hD hS hA 0 rfl rfl rfl hl.1 (lv_room (Nat.le_of_ble_eq_true rfl)) ⟨Nat.le_of_ble_eq_true rfl, Nat.le_of_ble_eq_true rfl⟩ ⟨Nat.zero_le _, Nat.zero_le _⟩ dX11_buys_97 (fun H locs hP hD hS => ?_)
  refine lv_if_ne (tgt := 111) X.hx X.hb dX11_buys_100 (by decide) (fun hc_18 => ?_) (fun hc_18 => ?_)
  · replace hf := if_f hf hc_18
    cases hf
    subst hQ
    exact r_vret X hP hD hS dX11_buys_111
  · replace hf := if_t hf hc_18
    refine lv_aload_n X.hx X.hb dX11_buys_103 rfl (lv_at hl 1 rfl) ?_
    refine lv_iload_n X.hx X.hb dX11_buys_104 rfl (lv_at hl 4 rfl) ?_
    obtain ⟨r_19, hc_20, hf⟩ := bd_i hf
    refine r_wvi (As := [.int p3]) (rest := []) X sm_X11_293 (c_X11_isVeiled l G N uY iY (va_up sY 6 g_15) tY jY p3 hc_20) hP hD hS hA 0 rfl rfl rfl hl.1 (lv_room (Nat.le_of_ble_eq_true rfl)) ⟨Nat.le_of_ble_eq_true rfl, Nat.le_of_ble_eq_true rfl⟩ ⟨Nat.zero_le _, Nat.zero_le _⟩ dX11_buys_105 (fun H locs hP hD hS => ?_)
    refine lv_if_eq (tgt := 112) X.hx X.hb dX11_buys_108 (by decide) (fun hc_21 => ?_) (fun hc_21 => ?_)
    · replace hf := if_t hf hc_21
      refine lv_aload_n X.hx X.hb dX11_buys_112 rfl (lv_at hl 1 rfl) ?_
      refine gf_X11_33 X hP 0 rfl (v := .ref (uY 7)) rfl dX11_buys_113 ?_
      refine lv_sipush (v := 227) X.hx X.hb dX11_buys_116 (by decide) ?_
      refine lv_bipush (v := 7) X.hx X.hb dX11_buys_119 (by decide) ?_
      refine lv_iload_n X.hx X.hb dX11_buys_121 rfl (lv_at hl 2 rfl) ?_
      refine lv_imul X.hx X.hb dX11_buys_122 ?_
      refine lv_iadd X.hx X.hb dX11_buys_123 ?_
      refine lv_iload_n X.hx X.hb dX11_buys_124 rfl (lv_at hl 4 rfl) ?_
      refine lv_iadd X.hx X.hb dX11_buys_125 ?_
      refine lv_dup2_11 X.hx X.hb dX11_buys_126 rfl rfl ?_
      obtain ⟨hi_22, hf⟩ := ck_i hf
      refine r_iald X hP 2 (f := g_15) rfl hi_22 dX11_buys_127 ?_
      refine lv_iconst (v := 1) X.hx X.hb dX11_buys_128 (by decide) ?_
      refine lv_iadd X.hx X.hb dX11_buys_129 ?_
      obtain ⟨hi_23, hf⟩ := ck_i hf
      obtain ⟨g_24, eg_24, hf⟩ := nv_i hf
      refine r_iast X hP hD hS 2 (f := g_15) rfl hi_23 (wo := (gY G uY iY (va_up sY 6 g_24) tY jY)) (by subst eg_24; rfl) dX11_buys_130 (fun H locs hP hD hS => ?_)
      refine lv_aload_n X.hx X.hb dX11_buys_131 rfl (lv_at hl 1 rfl) ?_
      refine gf_X11_33 X hP 0 rfl (v := .ref (uY 7)) rfl dX11_buys_132 ?_
      refine lv_sipush (v := 227) X.hx X.hb dX11_buys_135 (by decide) ?_
      refine lv_bipush (v := 7) X.hx X.hb dX11_buys_138 (by decide) ?_
      refine lv_iload_n X.hx X.hb dX11_buys_140 rfl (lv_at hl 4 rfl) ?_
      refine lv_imul X.hx X.hb dX11_buys_141 ?_
      refine lv_iadd X.hx X.hb dX11_buys_142 ?_
      refine lv_iload_n X.hx X.hb dX11_buys_143 rfl (lv_at hl 2 rfl) ?_
      refine lv_iadd X.hx X.hb dX11_buys_144 ?_
      refine lv_dup2_11 X.hx X.hb dX11_buys_145 rfl rfl ?_
      obtain ⟨hi_25, hf⟩ := ck_i hf
      refine r_iald X hP 2 (f := g_24) rfl hi_25 dX11_buys_146 ?_
      refine lv_iconst (v := 1) X.hx X.hb dX11_buys_147 (by decide) ?_
      refine lv_iadd X.hx X.hb dX11_buys_148 ?_
      obtain ⟨hi_26, hf⟩ := ck_i hf
      obtain ⟨g_27, eg_27, hf⟩ := nv_i hf
      refine r_iast X hP hD hS 2 (f := g_24) rfl hi_26 (wo := (gY G uY iY (va_up sY 6 g_27) tY jY)) (by subst eg_27; rfl) dX11_buys_149 (fun H locs hP hD hS => ?_)
      refine lv_aload_n X.hx X.hb dX11_buys_150 rfl (lv_at hl 1 rfl) ?_
      refine gf_X11_33 X hP 0 rfl (v := .ref (uY 7)) rfl dX11_buys_151 ?_
      refine lv_sipush (v := 227) X.hx X.hb dX11_buys_154 (by decide) ?_
      refine lv_bipush (v := 7) X.hx X.hb dX11_buys_157 (by decide) ?_
      refine lv_iload_n X.hx X.hb dX11_buys_159 rfl (lv_at hl 2 rfl) ?_
      refine lv_imul X.hx X.hb dX11_buys_160 ?_
      refine lv_iadd X.hx X.hb dX11_buys_161 ?_
      refine lv_iload_n X.hx X.hb dX11_buys_162 rfl (lv_at hl 4 rfl) ?_
      refine lv_iadd X.hx X.hb dX11_buys_163 ?_
      obtain ⟨hi_28, hf⟩ := ck_i hf
      refine r_iald X hP 2 (f := g_27) rfl hi_28 dX11_buys_164 ?_
      refine lv_aload_n X.hx X.hb dX11_buys_165 rfl (lv_at hl 1 rfl) ?_
      refine gf_X11_33 X hP 0 rfl (v := .ref (uY 7)) rfl dX11_buys_166 ?_
      refine lv_iconst (v := 2) X.hx X.hb dX11_buys_169 (by decide) ?_
      refine r_iald X hP 2 (f := g_27) rfl (vp_c rfl) dX11_buys_170 ?_
      refine W.eq (g2 := F0 m 171 ls [.int (g_27 2), .int (g_27 (ix (((227 : Int32) + ((7 : Int32) * p1)) + p3)))]) rfl ?_
      refine lv_icmp_lt (tgt := 180) X.hx X.hb dX11_buys_171 (by decide) (fun hc_29 => ?_) (fun hc_29 => ?_)
      · replace hf := if_t hf hc_29
        cases hf
        subst hQ
        exact r_vret X hP hD hS dX11_buys_180
      · replace hf := if_f hf hc_29
        refine lv_aload_n X.hx X.hb dX11_buys_174 rfl (lv_at hl 1 rfl) ?_
        refine lv_iload_n X.hx X.hb dX11_buys_175 rfl (lv_at hl 2 rfl) ?_
        refine lv_iload_n X.hx X.hb dX11_buys_176 rfl (lv_at hl 4 rfl) ?_
        obtain ⟨sY_30, hc_31, hf⟩ := bd_i hf
        refine r_wvv (As := [.int p1, .int p3]) (rest := []) X sm_X11_296 (c_X11_meets l G N uY iY (va_up sY 6 g_27) tY jY p1 p3 hc_31) hP hD hS hA 0 rfl rfl rfl hl.1 (lv_room (Nat.le_of_ble_eq_true rfl)) ⟨Nat.le_of_ble_eq_true rfl, Nat.le_of_ble_eq_true rfl⟩ ⟨Nat.zero_le _, Nat.zero_le _⟩ dX11_buys_177 (fun H locs hP hD hS => ?_)
        cases hf
        subst hQ
        exact r_vret X hP hD hS dX11_buys_180
    · replace hf := if_f hf hc_21
      cases hf
      subst hQ
      exact r_vret X hP hD hS dX11_buys_111

def f_X11_whyNod (N : Nat) (iY : Nat → Int32) (sY : Nat → Nat → Int32) (tY : Nat → Nat → Int64) (jY : Nat → Int64) (p1 : Int32) (p2 : Int32) : Option (Int32) :=
  (if p1 = p2 then some 1 else bd (f_X11_isHome N iY sY tY jY p1) (fun r_2 => (if r_2 = 0 then bd (f_X11_isHome N iY sY tY jY p2) (fun r_5 => (if r_5 = 0 then bd (f_X11_knownBy N iY sY tY jY p1) (fun r_8 => bd (f_X11_bitOf N r_8 p2) (fun r_10 => (if r_10 = 0 then some 0 else some 3))) else some 2)) else some 2)))
set_option maxHeartbeats 4000000 in
set_option maxRecDepth 100000 in
theorem c_X11_whyNod (l : Launch) (G : GT) (N : Nat) (uY : Nat → Nat) (iY : Nat → Int32) (sY : Nat → Nat → Int32) (tY : Nat → Nat → Int64) (jY : Nat → Int64) (p1 : Int32) (p2 : Int32) {r : Int32} (hf : f_X11_whyNod N iY sY tY jY p1 p2 = some r) : CI l G yX11_whyNod cX11_whyNod 3 .int 3 [.ref (uY 0), .int p1, .int p2] (gY G uY iY sY tY jY) r (gY G uY iY sY tY jY) := by
  refine CI.of (by decide) (Nat.le_of_ble_eq_true rfl) ?_
  intro p e s m args below meth c A X hA hP hD hS ls hl
  have hl : lv_has ls 3 [(0, .ref (uY 0)), (1, .int p1), (2, .int p2)] := hl
  generalize hQ : MQ below (QI G A r (gY G uY iY sY tY jY)) args s 0 0 A = QQ
  unfold f_X11_whyNod at hf
  refine lv_iload_n X.hx X.hb dX11_whyNod_0 rfl (lv_at hl 1 rfl) ?_
  refine lv_iload_n X.hx X.hb dX11_whyNod_1 rfl (lv_at hl 2 rfl) ?_
  refine lv_icmp_ne (tgt := 9) X.hx X.hb dX11_whyNod_2 (by decide) (fun hc_1 => ?_) (fun hc_1 => ?_)
  · replace hf := if_f hf hc_1
    refine lv_aload_n X.hx X.hb dX11_whyNod_9 rfl (lv_at hl 0 rfl) ?_
    refine lv_iload_n X.hx X.hb dX11_whyNod_10 rfl (lv_at hl 1 rfl) ?_
    obtain ⟨r_2, hc_3, hf⟩ := bd_i hf
    refine r_wvi (As := [.int p1]) (rest := []) X sm_X11_290 (c_X11_isHome l G N uY iY sY tY jY p1 hc_3) hP hD hS hA 0 rfl rfl rfl hl.1 (lv_room (Nat.le_of_ble_eq_true rfl)) ⟨Nat.le_of_ble_eq_true rfl, Nat.le_of_ble_eq_true rfl⟩ ⟨Nat.zero_le _, Nat.zero_le _⟩ dX11_whyNod_11 (fun H locs hP hD hS => ?_)
    refine lv_if_ne (tgt := 25) X.hx X.hb dX11_whyNod_14 (by decide) (fun hc_4 => ?_) (fun hc_4 => ?_)
    · replace hf := if_f hf hc_4
      refine lv_iconst (v := 2) X.hx X.hb dX11_whyNod_25 (by decide) ?_
      refine lv_goto (tgt := 46) X.hx X.hb dX11_whyNod_26 (by decide) ?_
      cases hf
      subst hQ
      exact r_iret X hP hD hS dX11_whyNod_46
    · replace hf := if_t hf hc_4
      refine lv_aload_n X.hx X.hb dX11_whyNod_17 rfl (lv_at hl 0 rfl) ?_
      refine lv_iload_n X.hx X.hb dX11_whyNod_18 rfl (lv_at hl 2 rfl) ?_
      obtain ⟨r_5, hc_6, hf⟩ := bd_i hf
      refine r_wvi (As := [.int p2]) (rest := []) X sm_X11_290 (c_X11_isHome l G N uY iY sY tY jY p2 hc_6) hP hD hS hA 0 rfl rfl rfl hl.1 (lv_room (Nat.le_of_ble_eq_true rfl)) ⟨Nat.le_of_ble_eq_true rfl, Nat.le_of_ble_eq_true rfl⟩ ⟨Nat.zero_le _, Nat.zero_le _⟩ dX11_whyNod_19 (fun H locs hP hD hS => ?_)
      refine lv_if_eq (tgt := 29) X.hx X.hb dX11_whyNod_22 (by decide) (fun hc_7 => ?_) (fun hc_7 => ?_)
      · replace hf := if_t hf hc_7
        refine lv_aload_n X.hx X.hb dX11_whyNod_29 rfl (lv_at hl 0 rfl) ?_
        refine lv_iload_n X.hx X.hb dX11_whyNod_30 rfl (lv_at hl 1 rfl) ?_
        obtain ⟨r_8, hc_9, hf⟩ := bd_i hf
        refine r_wvi (As := [.int p1]) (rest := []) X sm_X11_265 (c_X11_knownBy l G N uY iY sY tY jY p1 hc_9) hP hD hS hA 0 rfl rfl rfl hl.1 (lv_room (Nat.le_of_ble_eq_true rfl)) ⟨Nat.le_of_ble_eq_true rfl, Nat.le_of_ble_eq_true rfl⟩ ⟨Nat.zero_le _, Nat.zero_le _⟩ dX11_whyNod_31 (fun H locs hP hD hS => ?_)
        refine lv_iload_n X.hx X.hb dX11_whyNod_34 rfl (lv_at hl 2 rfl) ?_
        obtain ⟨r_10, hc_11, hf⟩ := bd_i hf
        refine r_cs0 (As := [.int r_8, .int p2]) (rest := []) X sm_X11_214 (c_X11_bitOf l G N r_8 p2 hc_11) hP hD hS hA rfl hl.1 (lv_room (Nat.le_of_ble_eq_true rfl)) ⟨Nat.le_of_ble_eq_true rfl, Nat.le_of_ble_eq_true rfl⟩ ⟨Nat.zero_le _, Nat.zero_le _⟩ dX11_whyNod_35 (fun H locs hP hD hS => ?_)
        refine lv_if_eq (tgt := 45) X.hx X.hb dX11_whyNod_38 (by decide) (fun hc_12 => ?_) (fun hc_12 => ?_)
        · replace hf := if_t hf hc_12
          refine lv_iconst (v := 0) X.hx X.hb dX11_whyNod_45 (by decide) ?_
          cases hf
          subst hQ
          exact r_iret X hP hD hS dX11_whyNod_46
        · replace hf := if_f hf hc_12
          refine lv_iconst (v := 3) X.hx X.hb dX11_whyNod_41 (by decide) ?_
          refine lv_goto (tgt := 46) X.hx X.hb dX11_whyNod_42 (by decide) ?_
          cases hf
          subst hQ
          exact r_iret X hP hD hS dX11_whyNod_46
      · replace hf := if_f hf hc_7
        refine lv_iconst (v := 2) X.hx X.hb dX11_whyNod_25 (by decide) ?_
        refine lv_goto (tgt := 46) X.hx X.hb dX11_whyNod_26 (by decide) ?_
        cases hf
        subst hQ
        exact r_iret X hP hD hS dX11_whyNod_46
  · replace hf := if_t hf hc_1
    refine lv_iconst (v := 1) X.hx X.hb dX11_whyNod_5 (by decide) ?_
    refine lv_goto (tgt := 46) X.hx X.hb dX11_whyNod_6 (by decide) ?_
    cases hf
    subst hQ
    exact r_iret X hP hD hS dX11_whyNod_46

def f_X11_nods (N : Nat) (iY : Nat → Int32) (sY : Nat → Nat → Int32) (tY : Nat → Nat → Int64) (jY : Nat → Int64) (p1 : Int32) (p2 : Int32) : Option ((Nat → Nat → Int32)) :=
  bd (f_X11_meets N iY sY tY jY p1 p2) (fun sY_1 => nv (upd (sY_1 6) 133 (((sY_1 6) 133) ||| ((1 : Int32) <<< (p1 &&& 31)))) (fun g_3 => some (va_up sY_1 6 g_3)))
set_option maxHeartbeats 4000000 in
set_option maxRecDepth 100000 in
theorem c_X11_nods (l : Launch) (G : GT) (N : Nat) (uY : Nat → Nat) (iY : Nat → Int32) (sY : Nat → Nat → Int32) (tY : Nat → Nat → Int64) (jY : Nat → Int64) (p1 : Int32) (p2 : Int32) {sY' : Nat → Nat → Int32} (hf : f_X11_nods N iY sY tY jY p1 p2 = some sY') : CV l G yX11_nods cX11_nods 3 2 [.ref (uY 0), .int p1, .int p2] (gY G uY iY sY tY jY) (gY G uY iY sY' tY jY) := by
  refine CV.of (by decide) (Nat.le_of_ble_eq_true rfl) ?_
  intro p e s m args below meth c A X hA hP hD hS ls hl
  have hl : lv_has ls 3 [(0, .ref (uY 0)), (1, .int p1), (2, .int p2)] := hl
  generalize hQ : MQ below (QV G A (gY G uY iY sY' tY jY)) args s 0 0 A = QQ
  unfold f_X11_nods at hf
  refine lv_aload_n X.hx X.hb dX11_nods_0 rfl (lv_at hl 0 rfl) ?_
  refine lv_iload_n X.hx X.hb dX11_nods_1 rfl (lv_at hl 1 rfl) ?_
  refine lv_iload_n X.hx X.hb dX11_nods_2 rfl (lv_at hl 2 rfl) ?_
  obtain ⟨sY_1, hc_2, hf⟩ := bd_i hf
  refine r_wvv (As := [.int p1, .int p2]) (rest := []) X sm_X11_296 (c_X11_meets l G N uY iY sY tY jY p1 p2 hc_2) hP hD hS hA 0 rfl rfl rfl hl.1 (lv_room (Nat.le_of_ble_eq_true rfl)) ⟨Nat.le_of_ble_eq_true rfl, Nat.le_of_ble_eq_true rfl⟩ ⟨Nat.zero_le _, Nat.zero_le _⟩ dX11_nods_3 (fun H locs hP hD hS => ?_)
  refine lv_aload_n X.hx X.hb dX11_nods_6 rfl (lv_at hl 0 rfl) ?_
  refine gf_X11_33 X hP 0 rfl (v := .ref (uY 7)) rfl dX11_nods_7 ?_
  refine lv_sipush (v := 133) X.hx X.hb dX11_nods_10 (by decide) ?_
  refine lv_dup2_11 X.hx X.hb dX11_nods_13 rfl rfl ?_
  refine r_iald X hP 2 (f := (sY_1 6)) rfl (vp_c rfl) dX11_nods_14 ?_
  refine W.eq (g2 := F0 m 15 ls [.int ((sY_1 6) 133), .int 133, .ref (uY 7)]) rfl ?_
  refine lv_iconst (v := 1) X.hx X.hb dX11_nods_15 (by decide) ?_
  refine lv_iload_n X.hx X.hb dX11_nods_16 rfl (lv_at hl 1 rfl) ?_
  refine lv_ishl X.hx X.hb dX11_nods_17 ?_
  refine lv_ior X.hx X.hb dX11_nods_18 ?_
  obtain ⟨g_3, eg_3, hf⟩ := nv_i hf
  refine r_iast X hP hD hS 2 (f := (sY_1 6)) rfl (vp_c rfl) (wo := (gY G uY iY (va_up sY_1 6 g_3) tY jY)) (by subst eg_3; rfl) dX11_nods_19 (fun H locs hP hD hS => ?_)
  cases hf
  subst hQ
  exact r_vret X hP hD hS dX11_nods_20

def f_X11_whyVeil (N : Nat) (iY : Nat → Int32) (sY : Nat → Nat → Int32) (tY : Nat → Nat → Int64) (jY : Nat → Int64) (p1 : Int32) : Option (Int32) :=
  bd (f_X11_isVeiled N iY sY tY jY p1) (fun r_1 => (if r_1 = 0 then (if ((sY 6) 135) = 0 then some 2 else some 0) else some 1))
set_option maxHeartbeats 4000000 in
set_option maxRecDepth 100000 in
theorem c_X11_whyVeil (l : Launch) (G : GT) (N : Nat) (uY : Nat → Nat) (iY : Nat → Int32) (sY : Nat → Nat → Int32) (tY : Nat → Nat → Int64) (jY : Nat → Int64) (p1 : Int32) {r : Int32} (hf : f_X11_whyVeil N iY sY tY jY p1 = some r) : CI l G yX11_whyVeil cX11_whyVeil 2 .int 3 [.ref (uY 0), .int p1] (gY G uY iY sY tY jY) r (gY G uY iY sY tY jY) := by
  refine CI.of (by decide) (Nat.le_of_ble_eq_true rfl) ?_
  intro p e s m args below meth c A X hA hP hD hS ls hl
  have hl : lv_has ls 2 [(0, .ref (uY 0)), (1, .int p1)] := hl
  generalize hQ : MQ below (QI G A r (gY G uY iY sY tY jY)) args s 0 0 A = QQ
  unfold f_X11_whyVeil at hf
  refine lv_aload_n X.hx X.hb dX11_whyVeil_0 rfl (lv_at hl 0 rfl) ?_
  refine lv_iload_n X.hx X.hb dX11_whyVeil_1 rfl (lv_at hl 1 rfl) ?_
  obtain ⟨r_1, hc_2, hf⟩ := bd_i hf
  refine r_wvi (As := [.int p1]) (rest := []) X sm_X11_293 (c_X11_isVeiled l G N uY iY sY tY jY p1 hc_2) hP hD hS hA 0 rfl rfl rfl hl.1 (lv_room (Nat.le_of_ble_eq_true rfl)) ⟨Nat.le_of_ble_eq_true rfl, Nat.le_of_ble_eq_true rfl⟩ ⟨Nat.zero_le _, Nat.zero_le _⟩ dX11_whyVeil_2 (fun H locs hP hD hS => ?_)
  refine lv_if_eq (tgt := 12) X.hx X.hb dX11_whyVeil_5 (by decide) (fun hc_3 => ?_) (fun hc_3 => ?_)
  · replace hf := if_t hf hc_3
    refine lv_aload_n X.hx X.hb dX11_whyVeil_12 rfl (lv_at hl 0 rfl) ?_
    refine gf_X11_33 X hP 0 rfl (v := .ref (uY 7)) rfl dX11_whyVeil_13 ?_
    refine lv_sipush (v := 135) X.hx X.hb dX11_whyVeil_16 (by decide) ?_
    refine r_iald X hP 2 (f := (sY 6)) rfl (vp_c rfl) dX11_whyVeil_19 ?_
    refine W.eq (g2 := F0 m 20 ls [.int ((sY 6) 135)]) rfl ?_
    refine lv_if_ne (tgt := 27) X.hx X.hb dX11_whyVeil_20 (by decide) (fun hc_4 => ?_) (fun hc_4 => ?_)
    · replace hf := if_f hf hc_4
      refine lv_iconst (v := 0) X.hx X.hb dX11_whyVeil_27 (by decide) ?_
      cases hf
      subst hQ
      exact r_iret X hP hD hS dX11_whyVeil_28
    · replace hf := if_t hf hc_4
      refine lv_iconst (v := 2) X.hx X.hb dX11_whyVeil_23 (by decide) ?_
      refine lv_goto (tgt := 28) X.hx X.hb dX11_whyVeil_24 (by decide) ?_
      cases hf
      subst hQ
      exact r_iret X hP hD hS dX11_whyVeil_28
  · replace hf := if_f hf hc_3
    refine lv_iconst (v := 1) X.hx X.hb dX11_whyVeil_8 (by decide) ?_
    refine lv_goto (tgt := 28) X.hx X.hb dX11_whyVeil_9 (by decide) ?_
    cases hf
    subst hQ
    exact r_iret X hP hD hS dX11_whyVeil_28

def f_X11_veils (N : Nat) (iY : Nat → Int32) (sY : Nat → Nat → Int32) (tY : Nat → Nat → Int64) (jY : Nat → Int64) (p1 : Int32) : Option ((Nat → Nat → Int32)) :=
  nv (upd (sY 6) 134 (((sY 6) 134) ||| ((1 : Int32) <<< (p1 &&& 31)))) (fun g_1 => nv (upd g_1 135 ((g_1 135) - 1)) (fun g_2 => some (va_up sY 6 g_2)))
set_option maxHeartbeats 4000000 in
set_option maxRecDepth 100000 in
theorem c_X11_veils (l : Launch) (G : GT) (N : Nat) (uY : Nat → Nat) (iY : Nat → Int32) (sY : Nat → Nat → Int32) (tY : Nat → Nat → Int64) (jY : Nat → Int64) (p1 : Int32) {sY' : Nat → Nat → Int32} (hf : f_X11_veils N iY sY tY jY p1 = some sY') : CV l G yX11_veils cX11_veils 2 1 [.ref (uY 0), .int p1] (gY G uY iY sY tY jY) (gY G uY iY sY' tY jY) := by
  refine CV.of (by decide) (Nat.le_of_ble_eq_true rfl) ?_
  intro p e s m args below meth c A X hA hP hD hS ls hl
  have hl : lv_has ls 2 [(0, .ref (uY 0)), (1, .int p1)] := hl
  generalize hQ : MQ below (QV G A (gY G uY iY sY' tY jY)) args s 0 0 A = QQ
  unfold f_X11_veils at hf
  refine lv_aload_n X.hx X.hb dX11_veils_0 rfl (lv_at hl 0 rfl) ?_
  refine gf_X11_33 X hP 0 rfl (v := .ref (uY 7)) rfl dX11_veils_1 ?_
  refine lv_sipush (v := 134) X.hx X.hb dX11_veils_4 (by decide) ?_
  refine lv_dup2_11 X.hx X.hb dX11_veils_7 rfl rfl ?_
  refine r_iald X hP 2 (f := (sY 6)) rfl (vp_c rfl) dX11_veils_8 ?_
  refine W.eq (g2 := F0 m 9 ls [.int ((sY 6) 134), .int 134, .ref (uY 7)]) rfl ?_
  refine lv_iconst (v := 1) X.hx X.hb dX11_veils_9 (by decide) ?_
  refine lv_iload_n X.hx X.hb dX11_veils_10 rfl (lv_at hl 1 rfl) ?_
  refine lv_ishl X.hx X.hb dX11_veils_11 ?_
  refine lv_ior X.hx X.hb dX11_veils_12 ?_
  obtain ⟨g_1, eg_1, hf⟩ := nv_i hf
  refine r_iast X hP hD hS 2 (f := (sY 6)) rfl (vp_c rfl) (wo := (gY G uY iY (va_up sY 6 g_1) tY jY)) (by subst eg_1; rfl) dX11_veils_13 (fun H locs hP hD hS => ?_)
  refine lv_aload_n X.hx X.hb dX11_veils_14 rfl (lv_at hl 0 rfl) ?_
  refine gf_X11_33 X hP 0 rfl (v := .ref (uY 7)) rfl dX11_veils_15 ?_
  refine lv_sipush (v := 135) X.hx X.hb dX11_veils_18 (by decide) ?_
  refine lv_dup2_11 X.hx X.hb dX11_veils_21 rfl rfl ?_
  refine r_iald X hP 2 (f := g_1) rfl (vp_c rfl) dX11_veils_22 ?_
  refine W.eq (g2 := F0 m 23 ls [.int (g_1 135), .int 135, .ref (uY 7)]) rfl ?_
  refine lv_iconst (v := 1) X.hx X.hb dX11_veils_23 (by decide) ?_
  refine lv_isub X.hx X.hb dX11_veils_24 ?_
  obtain ⟨g_2, eg_2, hf⟩ := nv_i hf
  refine r_iast X hP hD hS 2 (f := g_1) rfl (vp_c rfl) (wo := (gY G uY iY (va_up sY 6 g_2) tY jY)) (by subst eg_2; rfl) dX11_veils_25 (fun H locs hP hD hS => ?_)
  cases hf
  subst hQ
  exact r_vret X hP hD hS dX11_veils_26

def f_X11_whyTell (N : Nat) (iY : Nat → Int32) (sY : Nat → Nat → Int32) (tY : Nat → Nat → Int64) (jY : Nat → Int64) (p1 : Int32) (p2 : Int32) (p3 : Int32) : Option (Int32) :=
  (if p1 = p2 then some 1 else (if p1 = p3 then some 1 else (if p2 = p3 then some 1 else bd (f_X11_knownBy N iY sY tY jY p1) (fun r_4 => bd (f_X11_bitOf N r_4 p2) (fun r_6 => (if r_6 = 0 then some 2 else bd (f_X11_knownBy N iY sY tY jY p1) (fun r_9 => bd (f_X11_bitOf N r_9 p3) (fun r_11 => (if r_11 = 0 then some 2 else bd (f_X11_knownBy N iY sY tY jY p2) (fun r_14 => bd (f_X11_bitOf N r_14 p3) (fun r_16 => (if r_16 = 0 then some 0 else some 3))))))))))))
set_option maxHeartbeats 4000000 in
set_option maxRecDepth 100000 in
theorem c_X11_whyTell (l : Launch) (G : GT) (N : Nat) (uY : Nat → Nat) (iY : Nat → Int32) (sY : Nat → Nat → Int32) (tY : Nat → Nat → Int64) (jY : Nat → Int64) (p1 : Int32) (p2 : Int32) (p3 : Int32) {r : Int32} (hf : f_X11_whyTell N iY sY tY jY p1 p2 p3 = some r) : CI l G yX11_whyTell cX11_whyTell 4 .int 2 [.ref (uY 0), .int p1, .int p2, .int p3] (gY G uY iY sY tY jY) r (gY G uY iY sY tY jY) := by
  refine CI.of (by decide) (Nat.le_of_ble_eq_true rfl) ?_
  intro p e s m args below meth c A X hA hP hD hS ls hl
  have hl : lv_has ls 4 [(0, .ref (uY 0)), (1, .int p1), (2, .int p2), (3, .int p3)] := hl
  generalize hQ : MQ below (QI G A r (gY G uY iY sY tY jY)) args s 0 0 A = QQ
  unfold f_X11_whyTell at hf
  refine lv_iload_n X.hx X.hb dX11_whyTell_0 rfl (lv_at hl 1 rfl) ?_
  refine lv_iload_n X.hx X.hb dX11_whyTell_1 rfl (lv_at hl 2 rfl) ?_
  refine lv_icmp_eq (tgt := 15) X.hx X.hb dX11_whyTell_2 (by decide) (fun hc_1 => ?_) (fun hc_1 => ?_)
  · replace hf := if_t hf hc_1
    refine lv_iconst (v := 1) X.hx X.hb dX11_whyTell_15 (by decide) ?_
    refine lv_goto (tgt := 64) X.hx X.hb dX11_whyTell_16 (by decide) ?_
    cases hf
    subst hQ
    exact r_iret X hP hD hS dX11_whyTell_64
  · replace hf := if_f hf hc_1
    refine lv_iload_n X.hx X.hb dX11_whyTell_5 rfl (lv_at hl 1 rfl) ?_
    refine lv_iload_n X.hx X.hb dX11_whyTell_6 rfl (lv_at hl 3 rfl) ?_
    refine lv_icmp_eq (tgt := 15) X.hx X.hb dX11_whyTell_7 (by decide) (fun hc_2 => ?_) (fun hc_2 => ?_)
    · replace hf := if_t hf hc_2
      refine lv_iconst (v := 1) X.hx X.hb dX11_whyTell_15 (by decide) ?_
      refine lv_goto (tgt := 64) X.hx X.hb dX11_whyTell_16 (by decide) ?_
      cases hf
      subst hQ
      exact r_iret X hP hD hS dX11_whyTell_64
    · replace hf := if_f hf hc_2
      refine lv_iload_n X.hx X.hb dX11_whyTell_10 rfl (lv_at hl 2 rfl) ?_
      refine lv_iload_n X.hx X.hb dX11_whyTell_11 rfl (lv_at hl 3 rfl) ?_
      refine lv_icmp_ne (tgt := 19) X.hx X.hb dX11_whyTell_12 (by decide) (fun hc_3 => ?_) (fun hc_3 => ?_)
      · replace hf := if_f hf hc_3
        refine lv_aload_n X.hx X.hb dX11_whyTell_19 rfl (lv_at hl 0 rfl) ?_
        refine lv_iload_n X.hx X.hb dX11_whyTell_20 rfl (lv_at hl 1 rfl) ?_
        obtain ⟨r_4, hc_5, hf⟩ := bd_i hf
        refine r_wvi (As := [.int p1]) (rest := []) X sm_X11_265 (c_X11_knownBy l G N uY iY sY tY jY p1 hc_5) hP hD hS hA 0 rfl rfl rfl hl.1 (lv_room (Nat.le_of_ble_eq_true rfl)) ⟨Nat.le_of_ble_eq_true rfl, Nat.le_of_ble_eq_true rfl⟩ ⟨Nat.zero_le _, Nat.zero_le _⟩ dX11_whyTell_21 (fun H locs hP hD hS => ?_)
        refine lv_iload_n X.hx X.hb dX11_whyTell_24 rfl (lv_at hl 2 rfl) ?_
        obtain ⟨r_6, hc_7, hf⟩ := bd_i hf
        refine r_cs0 (As := [.int r_4, .int p2]) (rest := []) X sm_X11_214 (c_X11_bitOf l G N r_4 p2 hc_7) hP hD hS hA rfl hl.1 (lv_room (Nat.le_of_ble_eq_true rfl)) ⟨Nat.le_of_ble_eq_true rfl, Nat.le_of_ble_eq_true rfl⟩ ⟨Nat.zero_le _, Nat.zero_le _⟩ dX11_whyTell_25 (fun H locs hP hD hS => ?_)
        refine lv_if_eq (tgt := 43) X.hx X.hb dX11_whyTell_28 (by decide) (fun hc_8 => ?_) (fun hc_8 => ?_)
        · replace hf := if_t hf hc_8
          refine lv_iconst (v := 2) X.hx X.hb dX11_whyTell_43 (by decide) ?_
          refine lv_goto (tgt := 64) X.hx X.hb dX11_whyTell_44 (by decide) ?_
          cases hf
          subst hQ
          exact r_iret X hP hD hS dX11_whyTell_64
        · replace hf := if_f hf hc_8
          refine lv_aload_n X.hx X.hb dX11_whyTell_31 rfl (lv_at hl 0 rfl) ?_
          refine lv_iload_n X.hx X.hb dX11_whyTell_32 rfl (lv_at hl 1 rfl) ?_
          obtain ⟨r_9, hc_10, hf⟩ := bd_i hf
          refine r_wvi (As := [.int p1]) (rest := []) X sm_X11_265 (c_X11_knownBy l G N uY iY sY tY jY p1 hc_10) hP hD hS hA 0 rfl rfl rfl hl.1 (lv_room (Nat.le_of_ble_eq_true rfl)) ⟨Nat.le_of_ble_eq_true rfl, Nat.le_of_ble_eq_true rfl⟩ ⟨Nat.zero_le _, Nat.zero_le _⟩ dX11_whyTell_33 (fun H locs hP hD hS => ?_)
          refine lv_iload_n X.hx X.hb dX11_whyTell_36 rfl (lv_at hl 3 rfl) ?_
          obtain ⟨r_11, hc_12, hf⟩ := bd_i hf
          refine r_cs0 (As := [.int r_9, .int p3]) (rest := []) X sm_X11_214 (c_X11_bitOf l G N r_9 p3 hc_12) hP hD hS hA rfl hl.1 (lv_room (Nat.le_of_ble_eq_true rfl)) ⟨Nat.le_of_ble_eq_true rfl, Nat.le_of_ble_eq_true rfl⟩ ⟨Nat.zero_le _, Nat.zero_le _⟩ dX11_whyTell_37 (fun H locs hP hD hS => ?_)
          refine lv_if_ne (tgt := 47) X.hx X.hb dX11_whyTell_40 (by decide) (fun hc_13 => ?_) (fun hc_13 => ?_)
          · replace hf := if_f hf hc_13
            refine lv_aload_n X.hx X.hb dX11_whyTell_47 rfl (lv_at hl 0 rfl) ?_
            refine lv_iload_n X.hx X.hb dX11_whyTell_48 rfl (lv_at hl 2 rfl) ?_
            obtain ⟨r_14, hc_15, hf⟩ := bd_i hf
            refine r_wvi (As := [.int p2]) (rest := []) X sm_X11_265 (c_X11_knownBy l G N uY iY sY tY jY p2 hc_15) hP hD hS hA 0 rfl rfl rfl hl.1 (lv_room (Nat.le_of_ble_eq_true rfl)) ⟨Nat.le_of_ble_eq_true rfl, Nat.le_of_ble_eq_true rfl⟩ ⟨Nat.zero_le _, Nat.zero_le _⟩ dX11_whyTell_49 (fun H locs hP hD hS => ?_)
            refine lv_iload_n X.hx X.hb dX11_whyTell_52 rfl (lv_at hl 3 rfl) ?_
            obtain ⟨r_16, hc_17, hf⟩ := bd_i hf
            refine r_cs0 (As := [.int r_14, .int p3]) (rest := []) X sm_X11_214 (c_X11_bitOf l G N r_14 p3 hc_17) hP hD hS hA rfl hl.1 (lv_room (Nat.le_of_ble_eq_true rfl)) ⟨Nat.le_of_ble_eq_true rfl, Nat.le_of_ble_eq_true rfl⟩ ⟨Nat.zero_le _, Nat.zero_le _⟩ dX11_whyTell_53 (fun H locs hP hD hS => ?_)
            refine lv_if_eq (tgt := 63) X.hx X.hb dX11_whyTell_56 (by decide) (fun hc_18 => ?_) (fun hc_18 => ?_)
            · replace hf := if_t hf hc_18
              refine lv_iconst (v := 0) X.hx X.hb dX11_whyTell_63 (by decide) ?_
              cases hf
              subst hQ
              exact r_iret X hP hD hS dX11_whyTell_64
            · replace hf := if_f hf hc_18
              refine lv_iconst (v := 3) X.hx X.hb dX11_whyTell_59 (by decide) ?_
              refine lv_goto (tgt := 64) X.hx X.hb dX11_whyTell_60 (by decide) ?_
              cases hf
              subst hQ
              exact r_iret X hP hD hS dX11_whyTell_64
          · replace hf := if_t hf hc_13
            refine lv_iconst (v := 2) X.hx X.hb dX11_whyTell_43 (by decide) ?_
            refine lv_goto (tgt := 64) X.hx X.hb dX11_whyTell_44 (by decide) ?_
            cases hf
            subst hQ
            exact r_iret X hP hD hS dX11_whyTell_64
      · replace hf := if_t hf hc_3
        refine lv_iconst (v := 1) X.hx X.hb dX11_whyTell_15 (by decide) ?_
        refine lv_goto (tgt := 64) X.hx X.hb dX11_whyTell_16 (by decide) ?_
        cases hf
        subst hQ
        exact r_iret X hP hD hS dX11_whyTell_64

def f_X11_day_96 (N : Nat) (iY : Nat → Int32) (tY : Nat → Nat → Int64) (jY : Nat → Int64) : Nat → (Nat → Nat → Int32) → (Int32) → Option ((Nat → Nat → Int32))
  | 0, _, _ => none
  | k + 1, sY, v1 => (if (56 : Int32) ≤ v1 then some sY else ck ((220 : Int32) + v1) 457 (nv (upd (sY 6) (ix ((220 : Int32) + v1)) 0) (fun g_19 => f_X11_day_96 N iY tY jY k (va_up sY 6 g_19) (v1 + 1))))
def f_X11_day_2 (N : Nat) (iY : Nat → Int32) (tY : Nat → Nat → Int64) (jY : Nat → Int64) (K_1 : ((Nat → Nat → Int32)) → Option ((Nat → Nat → Int32))) : Nat → (Nat → Nat → Int32) → (Int32) → Option ((Nat → Nat → Int32))
  | 0, _, _ => none
  | k + 1, sY, v1 => (if ((sY 6) 0) ≤ v1 then K_1 sY else ck ((213 : Int32) + v1) 457 (bd (f_X11_wantsOf N iY sY tY jY v1) (fun r_33 => bd (f_X11_lesser N 9999 (((sY 6) (ix ((213 : Int32) + v1))) + r_33)) (fun r_35 => ck ((213 : Int32) + v1) 457 (nv (upd (sY 6) (ix ((213 : Int32) + v1)) r_35) (fun g_38 => f_X11_day_2 N iY tY jY K_1 k (va_up sY 6 g_38) (v1 + 1)))))))
def f_X11_day (N : Nat) (iY : Nat → Int32) (sY : Nat → Nat → Int32) (tY : Nat → Nat → Int64) (jY : Nat → Int64) : Option ((Nat → Nat → Int32)) :=
  jn (fun (z : (Nat → Nat → Int32)) => match z with | sY_4 => bd (f_X11_morning N iY sY_4 tY jY) (fun sY_5 => nv (upd (sY_5 6) 131 (((sY_5 6) 131) + 1)) (fun g_7 => (if (g_7 4) = 0 then some (va_up sY_5 6 g_7) else nz (g_7 4) ((if ((g_7 131) - (g_7 131) / (g_7 4) * (g_7 4)) = 0 then f_X11_day_96 N iY tY jY N (va_up sY_5 6 g_7) 0 else some (va_up sY_5 6 g_7))))))) (fun K_1 => f_X11_day_2 N iY tY jY K_1 N sY 0)
set_option maxHeartbeats 4000000 in
set_option maxRecDepth 100000 in
theorem c_X11_day (l : Launch) (G : GT) (N : Nat) (uY : Nat → Nat) (iY : Nat → Int32) (sY : Nat → Nat → Int32) (tY : Nat → Nat → Int64) (jY : Nat → Int64) {sY' : Nat → Nat → Int32} (hf : f_X11_day N iY sY tY jY = some sY') : CV l G yX11_day cX11_day 2 2 [.ref (uY 0)] (gY G uY iY sY tY jY) (gY G uY iY sY' tY jY) := by
  refine CV.of (by decide) (Nat.le_of_ble_eq_true rfl) ?_
  intro p e s m args below meth c A X hA hP hD hS ls hl
  have hl : lv_has ls 2 [(0, .ref (uY 0))] := hl
  generalize hQ : MQ below (QV G A (gY G uY iY sY' tY jY)) args s 0 0 A = QQ
  unfold f_X11_day at hf
  refine lv_iconst (v := 0) X.hx X.hb dX11_day_0 (by decide) ?_
  refine lv_istore_n (lv' := [(1, .int 0), (0, .ref (uY 0))]) X.hx X.hb dX11_day_1 rfl hl (by decide) rfl (fun ls hl => ?_)
  obtain ⟨K_1, eK_3, hf⟩ := jn_i hf
  have hj_2 : ∀ (sY_4 : Nat → Nat → Int32) (H : Heap) (locs : List Loc) (ls : Array Slot), K_1 sY_4 = some sY' → va_P G.1 vwCl (gY G uY iY sY_4 tY jY) H → va_D A (gY G uY iY sY_4 tY jY) → va_S A s.heap H locs → lv_has ls 2 [(0, .ref (uY 0))] → W p l e (RM 2) s m args below meth c H locs 0 0 QQ (F0 m 50 ls []) := by
    intro sY_4 H locs ls hf hP hD hS hl
    rw [eK_3] at hf
    try dsimp only at hf
    refine lv_aload_n X.hx X.hb dX11_day_50 rfl (lv_at hl 0 rfl) ?_
    obtain ⟨sY_5, hc_6, hf⟩ := bd_i hf
    refine r_wvv (As := []) (rest := []) X sm_X11_259 (c_X11_morning l G N uY iY sY_4 tY jY hc_6) hP hD hS hA 0 rfl rfl rfl hl.1 (lv_room (Nat.le_of_ble_eq_true rfl)) ⟨Nat.le_of_ble_eq_true rfl, Nat.le_of_ble_eq_true rfl⟩ ⟨Nat.zero_le _, Nat.zero_le _⟩ dX11_day_51 (fun H locs hP hD hS => ?_)
    refine lv_aload_n X.hx X.hb dX11_day_54 rfl (lv_at hl 0 rfl) ?_
    refine gf_X11_33 X hP 0 rfl (v := .ref (uY 7)) rfl dX11_day_55 ?_
    refine lv_sipush (v := 131) X.hx X.hb dX11_day_58 (by decide) ?_
    refine lv_dup2_11 X.hx X.hb dX11_day_61 rfl rfl ?_
    refine r_iald X hP 2 (f := (sY_5 6)) rfl (vp_c rfl) dX11_day_62 ?_
    refine W.eq (g2 := F0 m 63 ls [.int ((sY_5 6) 131), .int 131, .ref (uY 7)]) rfl ?_
    refine lv_iconst (v := 1) X.hx X.hb dX11_day_63 (by decide) ?_
    refine lv_iadd X.hx X.hb dX11_day_64 ?_
    obtain ⟨g_7, eg_7, hf⟩ := nv_i hf
    refine r_iast X hP hD hS 2 (f := (sY_5 6)) rfl (vp_c rfl) (wo := (gY G uY iY (va_up sY_5 6 g_7) tY jY)) (by subst eg_7; rfl) dX11_day_65 (fun H locs hP hD hS => ?_)
    refine lv_aload_n X.hx X.hb dX11_day_66 rfl (lv_at hl 0 rfl) ?_
    refine gf_X11_33 X hP 0 rfl (v := .ref (uY 7)) rfl dX11_day_67 ?_
    refine lv_iconst (v := 4) X.hx X.hb dX11_day_70 (by decide) ?_
    refine r_iald X hP 2 (f := g_7) rfl (vp_c rfl) dX11_day_71 ?_
    refine W.eq (g2 := F0 m 72 ls [.int (g_7 4)]) rfl ?_
    refine lv_if_eq (tgt := 93) X.hx X.hb dX11_day_72 (by decide) (fun hc_8 => ?_) (fun hc_8 => ?_)
    · replace hf := if_t hf hc_8
      cases hf
      subst hQ
      exact r_vret X hP hD hS dX11_day_93
    · replace hf := if_f hf hc_8
      refine lv_aload_n X.hx X.hb dX11_day_75 rfl (lv_at hl 0 rfl) ?_
      refine gf_X11_33 X hP 0 rfl (v := .ref (uY 7)) rfl dX11_day_76 ?_
      refine lv_sipush (v := 131) X.hx X.hb dX11_day_79 (by decide) ?_
      refine r_iald X hP 2 (f := g_7) rfl (vp_c rfl) dX11_day_82 ?_
      refine W.eq (g2 := F0 m 83 ls [.int (g_7 131)]) rfl ?_
      refine lv_aload_n X.hx X.hb dX11_day_83 rfl (lv_at hl 0 rfl) ?_
      refine gf_X11_33 X hP 0 rfl (v := .ref (uY 7)) rfl dX11_day_84 ?_
      refine lv_iconst (v := 4) X.hx X.hb dX11_day_87 (by decide) ?_
      refine r_iald X hP 2 (f := g_7) rfl (vp_c rfl) dX11_day_88 ?_
      refine W.eq (g2 := F0 m 89 ls [.int (g_7 4), .int (g_7 131)]) rfl ?_
      obtain ⟨hz_9, hf⟩ := nz_i hf
      refine lv_irem X.hx X.hb dX11_day_89 hz_9 ?_
      refine lv_if_eq (tgt := 94) X.hx X.hb dX11_day_90 (by decide) (fun hc_10 => ?_) (fun hc_10 => ?_)
      · replace hf := if_t hf hc_10
        refine lv_iconst (v := 0) X.hx X.hb dX11_day_94 (by decide) ?_
        refine lv_istore_n (lv' := [(1, .int 0), (0, .ref (uY 0))]) X.hx X.hb dX11_day_95 rfl hl (by decide) rfl (fun ls hl => ?_)
        have hlo_11 : ∀ (k : Nat) (sY_12 : Nat → Nat → Int32) (v1_13 : Int32) (H : Heap) (locs : List Loc) (ls : Array Slot), f_X11_day_96 N iY tY jY k sY_12 v1_13 = some sY' → va_P G.1 vwCl (gY G uY iY sY_12 tY jY) H → va_D A (gY G uY iY sY_12 tY jY) → va_S A s.heap H locs → lv_has ls 2 [(0, .ref (uY 0)), (1, .int v1_13)] → W p l e (RM 2) s m args below meth c H locs 0 0 QQ (F0 m 96 ls []) := by
          intro k
          induction k with
          | zero => intro sY_12 v1_13 H locs ls hf; exact absurd hf (by intro q; cases q)
          | succ k ih =>
            intro sY_12 v1_13 H locs ls hf hP hD hS hl
            unfold f_X11_day_96 at hf
            refine lv_iload_n X.hx X.hb dX11_day_96 rfl (lv_at hl 1 rfl) ?_
            refine lv_bipush (v := 56) X.hx X.hb dX11_day_97 (by decide) ?_
            refine lv_icmp_ge (tgt := 119) X.hx X.hb dX11_day_99 (by decide) (fun hc_14 => ?_) (fun hc_14 => ?_)
            · replace hf := if_t hf hc_14
              cases hf
              subst hQ
              exact r_vret X hP hD hS dX11_day_119
            · replace hf := if_f hf hc_14
              refine lv_aload_n X.hx X.hb dX11_day_102 rfl (lv_at hl 0 rfl) ?_
              refine gf_X11_33 X hP 0 rfl (v := .ref (uY 7)) rfl dX11_day_103 ?_
              refine lv_sipush (v := 220) X.hx X.hb dX11_day_106 (by decide) ?_
              refine lv_iload_n X.hx X.hb dX11_day_109 rfl (lv_at hl 1 rfl) ?_
              refine lv_iadd X.hx X.hb dX11_day_110 ?_
              refine lv_iconst (v := 0) X.hx X.hb dX11_day_111 (by decide) ?_
              obtain ⟨hi_15, hf⟩ := ck_i hf
              obtain ⟨g_16, eg_16, hf⟩ := nv_i hf
              refine r_iast X hP hD hS 2 (f := (sY_12 6)) rfl hi_15 (wo := (gY G uY iY (va_up sY_12 6 g_16) tY jY)) (by subst eg_16; rfl) dX11_day_112 (fun H locs hP hD hS => ?_)
              refine lv_iinc (v := (v1_13 + 1)) (lv' := [(1, .int (v1_13 + 1)), (0, .ref (uY 0))]) X.hx X.hb dX11_day_113 hl (k := 1) rfl rfl (by decide) rfl (fun ls hl => ?_)
              refine lv_goto (tgt := 96) X.hx X.hb dX11_day_116 (by decide) ?_
              exact ih _ _ _ _ _ hf hP hD hS (lv_sub hl [1, 0] rfl)
        exact hlo_11 N _ _ _ _ _ hf hP hD hS (lv_sub hl [1, 0] rfl)
      · replace hf := if_f hf hc_10
        cases hf
        subst hQ
        exact r_vret X hP hD hS dX11_day_93
  have hlo_20 : ∀ (k : Nat) (sY_21 : Nat → Nat → Int32) (v1_22 : Int32) (H : Heap) (locs : List Loc) (ls : Array Slot), f_X11_day_2 N iY tY jY K_1 k sY_21 v1_22 = some sY' → va_P G.1 vwCl (gY G uY iY sY_21 tY jY) H → va_D A (gY G uY iY sY_21 tY jY) → va_S A s.heap H locs → lv_has ls 2 [(0, .ref (uY 0)), (1, .int v1_22)] → W p l e (RM 2) s m args below meth c H locs 0 0 QQ (F0 m 2 ls []) := by
    intro k
    induction k with
    | zero => intro sY_21 v1_22 H locs ls hf; exact absurd hf (by intro q; cases q)
    | succ k ih =>
      intro sY_21 v1_22 H locs ls hf hP hD hS hl
      unfold f_X11_day_2 at hf
      refine lv_iload_n X.hx X.hb dX11_day_2 rfl (lv_at hl 1 rfl) ?_
      refine lv_aload_n X.hx X.hb dX11_day_3 rfl (lv_at hl 0 rfl) ?_
      refine gf_X11_33 X hP 0 rfl (v := .ref (uY 7)) rfl dX11_day_4 ?_
      refine lv_iconst (v := 0) X.hx X.hb dX11_day_7 (by decide) ?_
      refine r_iald X hP 2 (f := (sY_21 6)) rfl (vp_c rfl) dX11_day_8 ?_
      refine W.eq (g2 := F0 m 9 ls [.int ((sY_21 6) 0), .int v1_22]) rfl ?_
      refine lv_icmp_ge (tgt := 50) X.hx X.hb dX11_day_9 (by decide) (fun hc_23 => ?_) (fun hc_23 => ?_)
      · replace hf := if_t hf hc_23
        exact hj_2 _ _ _ _ hf hP hD hS (lv_sub hl [0] rfl)
      · replace hf := if_f hf hc_23
        refine lv_aload_n X.hx X.hb dX11_day_12 rfl (lv_at hl 0 rfl) ?_
        refine gf_X11_33 X hP 0 rfl (v := .ref (uY 7)) rfl dX11_day_13 ?_
        refine lv_sipush (v := 213) X.hx X.hb dX11_day_16 (by decide) ?_
        refine lv_iload_n X.hx X.hb dX11_day_19 rfl (lv_at hl 1 rfl) ?_
        refine lv_iadd X.hx X.hb dX11_day_20 ?_
        refine lv_sipush (v := 9999) X.hx X.hb dX11_day_21 (by decide) ?_
        refine lv_aload_n X.hx X.hb dX11_day_24 rfl (lv_at hl 0 rfl) ?_
        refine gf_X11_33 X hP 0 rfl (v := .ref (uY 7)) rfl dX11_day_25 ?_
        refine lv_sipush (v := 213) X.hx X.hb dX11_day_28 (by decide) ?_
        refine lv_iload_n X.hx X.hb dX11_day_31 rfl (lv_at hl 1 rfl) ?_
        refine lv_iadd X.hx X.hb dX11_day_32 ?_
        obtain ⟨hi_24, hf⟩ := ck_i hf
        refine r_iald X hP 2 (f := (sY_21 6)) rfl hi_24 dX11_day_33 ?_
        refine lv_aload_n X.hx X.hb dX11_day_34 rfl (lv_at hl 0 rfl) ?_
        refine lv_iload_n X.hx X.hb dX11_day_35 rfl (lv_at hl 1 rfl) ?_
        obtain ⟨r_25, hc_26, hf⟩ := bd_i hf
        refine r_wvi (As := [.int v1_22]) (rest := [.int ((sY_21 6) (ix ((213 : Int32) + v1_22))), .int 9999, .int ((213 : Int32) + v1_22), .ref (uY 7)]) X sm_X11_269 (c_X11_wantsOf l G N uY iY sY_21 tY jY v1_22 hc_26) hP hD hS hA 0 rfl rfl rfl hl.1 (lv_room (Nat.le_of_ble_eq_true rfl)) ⟨Nat.le_of_ble_eq_true rfl, Nat.le_of_ble_eq_true rfl⟩ ⟨Nat.zero_le _, Nat.zero_le _⟩ dX11_day_36 (fun H locs hP hD hS => ?_)
        refine lv_iadd X.hx X.hb dX11_day_39 ?_
        obtain ⟨r_27, hc_28, hf⟩ := bd_i hf
        refine r_cs0 (As := [.int 9999, .int (((sY_21 6) (ix ((213 : Int32) + v1_22))) + r_25)]) (rest := [.int ((213 : Int32) + v1_22), .ref (uY 7)]) X sm_X11_300 (c_X11_lesser l G N 9999 (((sY_21 6) (ix ((213 : Int32) + v1_22))) + r_25) hc_28) hP hD hS hA rfl hl.1 (lv_room (Nat.le_of_ble_eq_true rfl)) ⟨Nat.le_of_ble_eq_true rfl, Nat.le_of_ble_eq_true rfl⟩ ⟨Nat.zero_le _, Nat.zero_le _⟩ dX11_day_40 (fun H locs hP hD hS => ?_)
        obtain ⟨hi_29, hf⟩ := ck_i hf
        obtain ⟨g_30, eg_30, hf⟩ := nv_i hf
        refine r_iast X hP hD hS 2 (f := (sY_21 6)) rfl hi_29 (wo := (gY G uY iY (va_up sY_21 6 g_30) tY jY)) (by subst eg_30; rfl) dX11_day_43 (fun H locs hP hD hS => ?_)
        refine lv_iinc (v := (v1_22 + 1)) (lv' := [(1, .int (v1_22 + 1)), (0, .ref (uY 0))]) X.hx X.hb dX11_day_44 hl (k := 1) rfl rfl (by decide) rfl (fun ls hl => ?_)
        refine lv_goto (tgt := 2) X.hx X.hb dX11_day_47 (by decide) ?_
        exact ih _ _ _ _ _ hf hP hD hS (lv_sub hl [1, 0] rfl)
  exact hlo_20 N _ _ _ _ _ hf hP hD hS (lv_sub hl [1, 0] rfl)

def f_X11_goesOn_2 (N : Nat) (iY : Nat → Int32) (tY : Nat → Nat → Int64) (jY : Nat → Int64) (v1 : Int32) : Nat → (Nat → Nat → Int32) → (Int32) → Option (Int32 × (Nat → Nat → Int32))
  | 0, _, _ => none
  | k + 1, sY, v2 => (if v1 ≤ v2 then some (v2, sY) else (if (400 : Int32) ≤ ((sY 6) 131) then some (v2, sY) else bd (f_X11_day N iY sY tY jY) (fun sY_10 => f_X11_goesOn_2 N iY tY jY v1 k sY_10 (v2 + 1))))
def f_X11_goesOn (N : Nat) (iY : Nat → Int32) (sY : Nat → Nat → Int32) (tY : Nat → Nat → Int64) (jY : Nat → Int64) (p1 : Int32) : Option (Int32 × (Nat → Nat → Int32)) :=
  f_X11_goesOn_2 N iY tY jY p1 N sY 0
set_option maxHeartbeats 4000000 in
set_option maxRecDepth 100000 in
theorem c_X11_goesOn (l : Launch) (G : GT) (N : Nat) (uY : Nat → Nat) (iY : Nat → Int32) (sY : Nat → Nat → Int32) (tY : Nat → Nat → Int64) (jY : Nat → Int64) (p1 : Int32) {r : Int32} {sY' : Nat → Nat → Int32} (hf : f_X11_goesOn N iY sY tY jY p1 = some (r, sY')) : CI l G yX11_goesOn cX11_goesOn 3 .int 3 [.ref (uY 0), .int p1] (gY G uY iY sY tY jY) r (gY G uY iY sY' tY jY) := by
  refine CI.of (by decide) (Nat.le_of_ble_eq_true rfl) ?_
  intro p e s m args below meth c A X hA hP hD hS ls hl
  have hl : lv_has ls 3 [(0, .ref (uY 0)), (1, .int p1)] := hl
  generalize hQ : MQ below (QI G A r (gY G uY iY sY' tY jY)) args s 0 0 A = QQ
  unfold f_X11_goesOn at hf
  refine lv_iconst (v := 0) X.hx X.hb dX11_goesOn_0 (by decide) ?_
  refine lv_istore_n (lv' := [(2, .int 0), (0, .ref (uY 0)), (1, .int p1)]) X.hx X.hb dX11_goesOn_1 rfl hl (by decide) rfl (fun ls hl => ?_)
  have hlo_1 : ∀ (k : Nat) (sY_2 : Nat → Nat → Int32) (v2_3 : Int32) (H : Heap) (locs : List Loc) (ls : Array Slot), f_X11_goesOn_2 N iY tY jY p1 k sY_2 v2_3 = some (r, sY') → va_P G.1 vwCl (gY G uY iY sY_2 tY jY) H → va_D A (gY G uY iY sY_2 tY jY) → va_S A s.heap H locs → lv_has ls 3 [(0, .ref (uY 0)), (1, .int p1), (2, .int v2_3)] → W p l e (RM 3) s m args below meth c H locs 0 0 QQ (F0 m 2 ls []) := by
    intro k
    induction k with
    | zero => intro sY_2 v2_3 H locs ls hf; exact absurd hf (by intro q; cases q)
    | succ k ih =>
      intro sY_2 v2_3 H locs ls hf hP hD hS hl
      unfold f_X11_goesOn_2 at hf
      refine lv_iload_n X.hx X.hb dX11_goesOn_2 rfl (lv_at hl 2 rfl) ?_
      refine lv_iload_n X.hx X.hb dX11_goesOn_3 rfl (lv_at hl 1 rfl) ?_
      refine lv_icmp_ge (tgt := 31) X.hx X.hb dX11_goesOn_4 (by decide) (fun hc_4 => ?_) (fun hc_4 => ?_)
      · replace hf := if_t hf hc_4
        refine lv_iload_n X.hx X.hb dX11_goesOn_31 rfl (lv_at hl 2 rfl) ?_
        cases hf
        subst hQ
        exact r_iret X hP hD hS dX11_goesOn_32
      · replace hf := if_f hf hc_4
        refine lv_aload_n X.hx X.hb dX11_goesOn_7 rfl (lv_at hl 0 rfl) ?_
        refine gf_X11_33 X hP 0 rfl (v := .ref (uY 7)) rfl dX11_goesOn_8 ?_
        refine lv_sipush (v := 131) X.hx X.hb dX11_goesOn_11 (by decide) ?_
        refine r_iald X hP 2 (f := (sY_2 6)) rfl (vp_c rfl) dX11_goesOn_14 ?_
        refine W.eq (g2 := F0 m 15 ls [.int ((sY_2 6) 131)]) rfl ?_
        refine lv_sipush (v := 400) X.hx X.hb dX11_goesOn_15 (by decide) ?_
        refine lv_icmp_ge (tgt := 31) X.hx X.hb dX11_goesOn_18 (by decide) (fun hc_5 => ?_) (fun hc_5 => ?_)
        · replace hf := if_t hf hc_5
          refine lv_iload_n X.hx X.hb dX11_goesOn_31 rfl (lv_at hl 2 rfl) ?_
          cases hf
          subst hQ
          exact r_iret X hP hD hS dX11_goesOn_32
        · replace hf := if_f hf hc_5
          refine lv_aload_n X.hx X.hb dX11_goesOn_21 rfl (lv_at hl 0 rfl) ?_
          obtain ⟨sY_6, hc_7, hf⟩ := bd_i hf
          refine r_wvv (As := []) (rest := []) X sm_X11_303 (c_X11_day l G N uY iY sY_2 tY jY hc_7) hP hD hS hA 0 rfl rfl rfl hl.1 (lv_room (Nat.le_of_ble_eq_true rfl)) ⟨Nat.le_of_ble_eq_true rfl, Nat.le_of_ble_eq_true rfl⟩ ⟨Nat.zero_le _, Nat.zero_le _⟩ dX11_goesOn_22 (fun H locs hP hD hS => ?_)
          refine lv_iinc (v := (v2_3 + 1)) (lv' := [(2, .int (v2_3 + 1)), (0, .ref (uY 0)), (1, .int p1)]) X.hx X.hb dX11_goesOn_25 hl (k := 2) rfl rfl (by decide) rfl (fun ls hl => ?_)
          refine lv_goto (tgt := 2) X.hx X.hb dX11_goesOn_28 (by decide) ?_
          exact ih _ _ _ _ _ hf hP hD hS (lv_sub hl [1, 2, 0] rfl)
  exact hlo_1 N _ _ _ _ _ hf hP hD hS (lv_sub hl [1, 2, 0] rfl)

def f_X11_keep_48 (N : Nat) (iY : Nat → Int32) (tY : Nat → Nat → Int64) (jY : Nat → Int64) (K_6 : ((Nat → Nat → Int32)) → Option ((Nat → Int32) × (Nat → Nat → Int32))) : Nat → (Nat → Nat → Int32) → (Int32) → Option ((Nat → Int32) × (Nat → Nat → Int32))
  | 0, _, _ => none
  | k + 1, sY, v1 => (if (145 : Int32) ≤ v1 then K_6 sY else ck ((131 : Int32) + v1) 457 (ck (((145 : Int32) * (iY 23)) + v1) 1160 (nv (upd (sY 21) (ix (((145 : Int32) * (iY 23)) + v1)) ((sY 6) (ix ((131 : Int32) + v1)))) (fun g_20 => f_X11_keep_48 N iY tY jY K_6 k (va_up sY 21 g_20) (v1 + 1)))))
def f_X11_keep_11 (N : Nat) (iY : Nat → Int32) (tY : Nat → Nat → Int64) (jY : Nat → Int64) (K_22 : ((Nat → Nat → Int32)) → Option ((Nat → Int32) × (Nat → Nat → Int32))) (K_1 : ((Nat → Int32) × (Nat → Nat → Int32)) → Option ((Nat → Int32) × (Nat → Nat → Int32))) : Nat → (Nat → Nat → Int32) → (Int32) → Option ((Nat → Int32) × (Nat → Nat → Int32))
  | 0, _, _ => none
  | k + 1, sY, v1 => (if (1015 : Int32) ≤ v1 then K_22 sY else ck (v1 + 145) 1160 (ck v1 1160 (nv (upd (sY 21) (ix v1) ((sY 21) (ix (v1 + 145)))) (fun g_36 => f_X11_keep_11 N iY tY jY K_22 K_1 k (va_up sY 21 g_36) (v1 + 1)))))
def f_X11_keep (N : Nat) (iY : Nat → Int32) (sY : Nat → Nat → Int32) (tY : Nat → Nat → Int64) (jY : Nat → Int64) : Option ((Nat → Int32) × (Nat → Nat → Int32)) :=
  jn (fun (z : (Nat → Int32) × (Nat → Nat → Int32)) => match z with | (iY_4, sY_5) => jn (fun (z : (Nat → Nat → Int32)) => match z with | sY_9 => some ((va_up iY_4 23 ((iY_4 23) + 1)), sY_9)) (fun K_6 => f_X11_keep_48 N iY_4 tY jY K_6 N sY_5 0)) (fun K_1 => (if (iY 23) = 8 then jn (fun (z : (Nat → Nat → Int32)) => match z with | sY_25 => K_1 ((va_up iY 23 7), sY_25)) (fun K_22 => f_X11_keep_11 N iY tY jY K_22 K_1 N sY 0) else K_1 (iY, sY)))
set_option maxHeartbeats 4000000 in
set_option maxRecDepth 100000 in
theorem c_X11_keep (l : Launch) (G : GT) (N : Nat) (uY : Nat → Nat) (iY : Nat → Int32) (sY : Nat → Nat → Int32) (tY : Nat → Nat → Int64) (jY : Nat → Int64) {iY' : Nat → Int32} {sY' : Nat → Nat → Int32} (hf : f_X11_keep N iY sY tY jY = some (iY', sY')) : CV l G yX11_keep cX11_keep 2 1 [.ref (uY 0)] (gY G uY iY sY tY jY) (gY G uY iY' sY' tY jY) := by
  refine CV.of (by decide) (Nat.le_of_ble_eq_true rfl) ?_
  intro p e s m args below meth c A X hA hP hD hS ls hl
  have hl : lv_has ls 2 [(0, .ref (uY 0))] := hl
  generalize hQ : MQ below (QV G A (gY G uY iY' sY' tY jY)) args s 0 0 A = QQ
  unfold f_X11_keep at hf
  refine lv_aload_n X.hx X.hb dX11_keep_0 rfl (lv_at hl 0 rfl) ?_
  refine gf_X11_262 X hP 0 rfl (v := .int (iY 23)) rfl dX11_keep_1 ?_
  refine lv_bipush (v := 8) X.hx X.hb dX11_keep_4 (by decide) ?_
  obtain ⟨K_1, eK_3, hf⟩ := jn_i hf
  have hj_2 : ∀ (iY_4 : Nat → Int32) (sY_5 : Nat → Nat → Int32) (H : Heap) (locs : List Loc) (ls : Array Slot), K_1 (iY_4, sY_5) = some (iY', sY') → va_P G.1 vwCl (gY G uY iY_4 sY_5 tY jY) H → va_D A (gY G uY iY_4 sY_5 tY jY) → va_S A s.heap H locs → lv_has ls 2 [(0, .ref (uY 0))] → W p l e (RM 1) s m args below meth c H locs 0 0 QQ (F0 m 46 ls []) := by
    intro iY_4 sY_5 H locs ls hf hP hD hS hl
    rw [eK_3] at hf
    try dsimp only at hf
    refine lv_iconst (v := 0) X.hx X.hb dX11_keep_46 (by decide) ?_
    refine lv_istore_n (lv' := [(1, .int 0), (0, .ref (uY 0))]) X.hx X.hb dX11_keep_47 rfl hl (by decide) rfl (fun ls hl => ?_)
    obtain ⟨K_6, eK_8, hf⟩ := jn_i hf
    have hj_7 : ∀ (sY_9 : Nat → Nat → Int32) (H : Heap) (locs : List Loc) (ls : Array Slot), K_6 sY_9 = some (iY', sY') → va_P G.1 vwCl (gY G uY iY_4 sY_9 tY jY) H → va_D A (gY G uY iY_4 sY_9 tY jY) → va_S A s.heap H locs → lv_has ls 2 [(0, .ref (uY 0))] → W p l e (RM 1) s m args below meth c H locs 0 0 QQ (F0 m 86 ls []) := by
      intro sY_9 H locs ls hf hP hD hS hl
      rw [eK_8] at hf
      try dsimp only at hf
      refine lv_aload_n X.hx X.hb dX11_keep_86 rfl (lv_at hl 0 rfl) ?_
      refine lv_dup X.hx X.hb dX11_keep_87 rfl ?_
      refine gf_X11_262 X hP 0 rfl (v := .int (iY_4 23)) rfl dX11_keep_88 ?_
      refine lv_iconst (v := 1) X.hx X.hb dX11_keep_91 (by decide) ?_
      refine lv_iadd X.hx X.hb dX11_keep_92 ?_
      refine pf_X11_262 X hP hD hS 0 rfl rfl rfl (Nat.le_of_ble_eq_true rfl) (wo := (gY G uY (va_up iY_4 23 ((iY_4 23) + 1)) sY_9 tY jY)) rfl dX11_keep_93 (fun H locs hP hD hS => ?_)
      cases hf
      subst hQ
      exact r_vret X hP hD hS dX11_keep_96
    have hlo_10 : ∀ (k : Nat) (sY_11 : Nat → Nat → Int32) (v1_12 : Int32) (H : Heap) (locs : List Loc) (ls : Array Slot), f_X11_keep_48 N iY_4 tY jY K_6 k sY_11 v1_12 = some (iY', sY') → va_P G.1 vwCl (gY G uY iY_4 sY_11 tY jY) H → va_D A (gY G uY iY_4 sY_11 tY jY) → va_S A s.heap H locs → lv_has ls 2 [(0, .ref (uY 0)), (1, .int v1_12)] → W p l e (RM 1) s m args below meth c H locs 0 0 QQ (F0 m 48 ls []) := by
      intro k
      induction k with
      | zero => intro sY_11 v1_12 H locs ls hf; exact absurd hf (by intro q; cases q)
      | succ k ih =>
        intro sY_11 v1_12 H locs ls hf hP hD hS hl
        unfold f_X11_keep_48 at hf
        refine lv_iload_n X.hx X.hb dX11_keep_48 rfl (lv_at hl 1 rfl) ?_
        refine lv_sipush (v := 145) X.hx X.hb dX11_keep_49 (by decide) ?_
        refine lv_icmp_ge (tgt := 86) X.hx X.hb dX11_keep_52 (by decide) (fun hc_13 => ?_) (fun hc_13 => ?_)
        · replace hf := if_t hf hc_13
          exact hj_7 _ _ _ _ hf hP hD hS (lv_sub hl [0] rfl)
        · replace hf := if_f hf hc_13
          refine lv_aload_n X.hx X.hb dX11_keep_55 rfl (lv_at hl 0 rfl) ?_
          refine gf_X11_50 X hP 0 rfl (v := .ref (uY 22)) rfl dX11_keep_56 ?_
          refine lv_sipush (v := 145) X.hx X.hb dX11_keep_59 (by decide) ?_
          refine lv_aload_n X.hx X.hb dX11_keep_62 rfl (lv_at hl 0 rfl) ?_
          refine gf_X11_262 X hP 0 rfl (v := .int (iY_4 23)) rfl dX11_keep_63 ?_
          refine lv_imul X.hx X.hb dX11_keep_66 ?_
          refine lv_iload_n X.hx X.hb dX11_keep_67 rfl (lv_at hl 1 rfl) ?_
          refine lv_iadd X.hx X.hb dX11_keep_68 ?_
          refine lv_aload_n X.hx X.hb dX11_keep_69 rfl (lv_at hl 0 rfl) ?_
          refine gf_X11_33 X hP 0 rfl (v := .ref (uY 7)) rfl dX11_keep_70 ?_
          refine lv_sipush (v := 131) X.hx X.hb dX11_keep_73 (by decide) ?_
          refine lv_iload_n X.hx X.hb dX11_keep_76 rfl (lv_at hl 1 rfl) ?_
          refine lv_iadd X.hx X.hb dX11_keep_77 ?_
          obtain ⟨hi_14, hf⟩ := ck_i hf
          refine r_iald X hP 2 (f := (sY_11 6)) rfl hi_14 dX11_keep_78 ?_
          obtain ⟨hi_15, hf⟩ := ck_i hf
          obtain ⟨g_16, eg_16, hf⟩ := nv_i hf
          refine r_iast X hP hD hS 7 (f := (sY_11 21)) rfl hi_15 (wo := (gY G uY iY_4 (va_up sY_11 21 g_16) tY jY)) (by subst eg_16; rfl) dX11_keep_79 (fun H locs hP hD hS => ?_)
          refine lv_iinc (v := (v1_12 + 1)) (lv' := [(1, .int (v1_12 + 1)), (0, .ref (uY 0))]) X.hx X.hb dX11_keep_80 hl (k := 1) rfl rfl (by decide) rfl (fun ls hl => ?_)
          refine lv_goto (tgt := 48) X.hx X.hb dX11_keep_83 (by decide) ?_
          exact ih _ _ _ _ _ hf hP hD hS (lv_sub hl [1, 0] rfl)
    exact hlo_10 N _ _ _ _ _ hf hP hD hS (lv_sub hl [1, 0] rfl)
  refine lv_icmp_ne (tgt := 46) X.hx X.hb dX11_keep_6 (by decide) (fun hc_21 => ?_) (fun hc_21 => ?_)
  · replace hf := if_f hf hc_21
    exact hj_2 _ _ _ _ _ hf hP hD hS (lv_sub hl [0] rfl)
  · replace hf := if_t hf hc_21
    refine lv_iconst (v := 0) X.hx X.hb dX11_keep_9 (by decide) ?_
    refine lv_istore_n (lv' := [(1, .int 0), (0, .ref (uY 0))]) X.hx X.hb dX11_keep_10 rfl hl (by decide) rfl (fun ls hl => ?_)
    obtain ⟨K_22, eK_24, hf⟩ := jn_i hf
    have hj_23 : ∀ (sY_25 : Nat → Nat → Int32) (H : Heap) (locs : List Loc) (ls : Array Slot), K_22 sY_25 = some (iY', sY') → va_P G.1 vwCl (gY G uY iY sY_25 tY jY) H → va_D A (gY G uY iY sY_25 tY jY) → va_S A s.heap H locs → lv_has ls 2 [(0, .ref (uY 0))] → W p l e (RM 1) s m args below meth c H locs 0 0 QQ (F0 m 40 ls []) := by
      intro sY_25 H locs ls hf hP hD hS hl
      rw [eK_24] at hf
      try dsimp only at hf
      refine lv_aload_n X.hx X.hb dX11_keep_40 rfl (lv_at hl 0 rfl) ?_
      refine lv_bipush (v := 7) X.hx X.hb dX11_keep_41 (by decide) ?_
      refine pf_X11_262 X hP hD hS 0 rfl rfl rfl (Nat.le_of_ble_eq_true rfl) (wo := (gY G uY (va_up iY 23 7) sY_25 tY jY)) rfl dX11_keep_43 (fun H locs hP hD hS => ?_)
      exact hj_2 _ _ _ _ _ hf hP hD hS (lv_sub hl [0] rfl)
    have hlo_26 : ∀ (k : Nat) (sY_27 : Nat → Nat → Int32) (v1_28 : Int32) (H : Heap) (locs : List Loc) (ls : Array Slot), f_X11_keep_11 N iY tY jY K_22 K_1 k sY_27 v1_28 = some (iY', sY') → va_P G.1 vwCl (gY G uY iY sY_27 tY jY) H → va_D A (gY G uY iY sY_27 tY jY) → va_S A s.heap H locs → lv_has ls 2 [(0, .ref (uY 0)), (1, .int v1_28)] → W p l e (RM 1) s m args below meth c H locs 0 0 QQ (F0 m 11 ls []) := by
      intro k
      induction k with
      | zero => intro sY_27 v1_28 H locs ls hf; exact absurd hf (by intro q; cases q)
      | succ k ih =>
        intro sY_27 v1_28 H locs ls hf hP hD hS hl
        unfold f_X11_keep_11 at hf
        refine lv_iload_n X.hx X.hb dX11_keep_11 rfl (lv_at hl 1 rfl) ?_
        refine lv_sipush (v := 1015) X.hx X.hb dX11_keep_12 (by decide) ?_
        refine lv_icmp_ge (tgt := 40) X.hx X.hb dX11_keep_15 (by decide) (fun hc_29 => ?_) (fun hc_29 => ?_)
        · replace hf := if_t hf hc_29
          exact hj_23 _ _ _ _ hf hP hD hS (lv_sub hl [0] rfl)
        · replace hf := if_f hf hc_29
          refine lv_aload_n X.hx X.hb dX11_keep_18 rfl (lv_at hl 0 rfl) ?_
          refine gf_X11_50 X hP 0 rfl (v := .ref (uY 22)) rfl dX11_keep_19 ?_
          refine lv_iload_n X.hx X.hb dX11_keep_22 rfl (lv_at hl 1 rfl) ?_
          refine lv_aload_n X.hx X.hb dX11_keep_23 rfl (lv_at hl 0 rfl) ?_
          refine gf_X11_50 X hP 0 rfl (v := .ref (uY 22)) rfl dX11_keep_24 ?_
          refine lv_iload_n X.hx X.hb dX11_keep_27 rfl (lv_at hl 1 rfl) ?_
          refine lv_sipush (v := 145) X.hx X.hb dX11_keep_28 (by decide) ?_
          refine lv_iadd X.hx X.hb dX11_keep_31 ?_
          obtain ⟨hi_30, hf⟩ := ck_i hf
          refine r_iald X hP 7 (f := (sY_27 21)) rfl hi_30 dX11_keep_32 ?_
          obtain ⟨hi_31, hf⟩ := ck_i hf
          obtain ⟨g_32, eg_32, hf⟩ := nv_i hf
          refine r_iast X hP hD hS 7 (f := (sY_27 21)) rfl hi_31 (wo := (gY G uY iY (va_up sY_27 21 g_32) tY jY)) (by subst eg_32; rfl) dX11_keep_33 (fun H locs hP hD hS => ?_)
          refine lv_iinc (v := (v1_28 + 1)) (lv' := [(1, .int (v1_28 + 1)), (0, .ref (uY 0))]) X.hx X.hb dX11_keep_34 hl (k := 1) rfl rfl (by decide) rfl (fun ls hl => ?_)
          refine lv_goto (tgt := 11) X.hx X.hb dX11_keep_37 (by decide) ?_
          exact ih _ _ _ _ _ hf hP hD hS (lv_sub hl [1, 0] rfl)
    exact hlo_26 N _ _ _ _ _ hf hP hD hS (lv_sub hl [1, 0] rfl)

def f_X11_buy (N : Nat) (iY : Nat → Int32) (sY : Nat → Nat → Int32) (tY : Nat → Nat → Int64) (jY : Nat → Int64) (p1 : Int32) (p2 : Int32) (p3 : Int32) : Option (Int32 × (Nat → Int32) × (Nat → Nat → Int32)) :=
  bd (f_X11_isPerson N (va_up iY 0 0) sY tY jY p1) (fun r_1 => (if r_1 = 0 then some ((-1), (va_up iY 0 0), sY) else bd (f_X11_isGood N (va_up iY 0 0) sY tY jY p2) (fun r_4 => (if r_4 = 0 then some ((-1), (va_up iY 0 0), sY) else bd (f_X11_isPerson N (va_up iY 0 0) sY tY jY p3) (fun r_7 => (if r_7 = 0 then some ((-1), (va_up iY 0 0), sY) else bd (f_X11_whyBuy N (va_up iY 0 0) sY tY jY p1 p2 p3) (fun r_10 => (if r_10 ≤ 0 then bd (f_X11_keep N (va_up iY 0 0) sY tY jY) (fun (iY_13, sY_14) => bd (f_X11_buys N iY_13 sY_14 tY jY p1 p2 p3) (fun sY_16 => some (0, iY_13, sY_16))) else some (r_10, (va_up iY 0 0), sY)))))))))
set_option maxHeartbeats 4000000 in
set_option maxRecDepth 100000 in
theorem c_X11_buy (l : Launch) (G : GT) (N : Nat) (uY : Nat → Nat) (iY : Nat → Int32) (sY : Nat → Nat → Int32) (tY : Nat → Nat → Int64) (jY : Nat → Int64) (p1 : Int32) (p2 : Int32) (p3 : Int32) {r : Int32} {iY' : Nat → Int32} {sY' : Nat → Nat → Int32} (hf : f_X11_buy N iY sY tY jY p1 p2 p3 = some (r, iY', sY')) : CI l G yX11_buy cX11_buy 5 .int 4 [.ref (uY 0), .int p1, .int p2, .int p3] (gY G uY iY sY tY jY) r (gY G uY iY' sY' tY jY) := by
  refine CI.of (by decide) (Nat.le_of_ble_eq_true rfl) ?_
  intro p e s m args below meth c A X hA hP hD hS ls hl
  have hl : lv_has ls 5 [(0, .ref (uY 0)), (1, .int p1), (2, .int p2), (3, .int p3)] := hl
  generalize hQ : MQ below (QI G A r (gY G uY iY' sY' tY jY)) args s 0 0 A = QQ
  unfold f_X11_buy at hf
  refine lv_aload_n X.hx X.hb dX11_buy_0 rfl (lv_at hl 0 rfl) ?_
  refine lv_iconst (v := 0) X.hx X.hb dX11_buy_1 (by decide) ?_
  refine pf_X11_1 X hP hD hS 0 rfl rfl rfl (Nat.le_of_ble_eq_true rfl) (wo := (gY G uY (va_up iY 0 0) sY tY jY)) rfl dX11_buy_2 (fun H locs hP hD hS => ?_)
  refine lv_aload_n X.hx X.hb dX11_buy_5 rfl (lv_at hl 0 rfl) ?_
  refine lv_iload_n X.hx X.hb dX11_buy_6 rfl (lv_at hl 1 rfl) ?_
  obtain ⟨r_1, hc_2, hf⟩ := bd_i hf
  refine r_wvi (As := [.int p1]) (rest := []) X sm_X11_272 (c_X11_isPerson l G N uY (va_up iY 0 0) sY tY jY p1 hc_2) hP hD hS hA 0 rfl rfl rfl hl.1 (lv_room (Nat.le_of_ble_eq_true rfl)) ⟨Nat.le_of_ble_eq_true rfl, Nat.le_of_ble_eq_true rfl⟩ ⟨Nat.zero_le _, Nat.zero_le _⟩ dX11_buy_7 (fun H locs hP hD hS => ?_)
  refine lv_if_eq (tgt := 29) X.hx X.hb dX11_buy_10 (by decide) (fun hc_3 => ?_) (fun hc_3 => ?_)
  · replace hf := if_t hf hc_3
    refine lv_iconst (v := (-1)) X.hx X.hb dX11_buy_29 (by decide) ?_
    cases hf
    subst hQ
    exact r_iret X hP hD hS dX11_buy_30
  · replace hf := if_f hf hc_3
    refine lv_aload_n X.hx X.hb dX11_buy_13 rfl (lv_at hl 0 rfl) ?_
    refine lv_iload_n X.hx X.hb dX11_buy_14 rfl (lv_at hl 2 rfl) ?_
    obtain ⟨r_4, hc_5, hf⟩ := bd_i hf
    refine r_wvi (As := [.int p2]) (rest := []) X sm_X11_281 (c_X11_isGood l G N uY (va_up iY 0 0) sY tY jY p2 hc_5) hP hD hS hA 0 rfl rfl rfl hl.1 (lv_room (Nat.le_of_ble_eq_true rfl)) ⟨Nat.le_of_ble_eq_true rfl, Nat.le_of_ble_eq_true rfl⟩ ⟨Nat.zero_le _, Nat.zero_le _⟩ dX11_buy_15 (fun H locs hP hD hS => ?_)
    refine lv_if_eq (tgt := 29) X.hx X.hb dX11_buy_18 (by decide) (fun hc_6 => ?_) (fun hc_6 => ?_)
    · replace hf := if_t hf hc_6
      refine lv_iconst (v := (-1)) X.hx X.hb dX11_buy_29 (by decide) ?_
      cases hf
      subst hQ
      exact r_iret X hP hD hS dX11_buy_30
    · replace hf := if_f hf hc_6
      refine lv_aload_n X.hx X.hb dX11_buy_21 rfl (lv_at hl 0 rfl) ?_
      refine lv_iload_n X.hx X.hb dX11_buy_22 rfl (lv_at hl 3 rfl) ?_
      obtain ⟨r_7, hc_8, hf⟩ := bd_i hf
      refine r_wvi (As := [.int p3]) (rest := []) X sm_X11_272 (c_X11_isPerson l G N uY (va_up iY 0 0) sY tY jY p3 hc_8) hP hD hS hA 0 rfl rfl rfl hl.1 (lv_room (Nat.le_of_ble_eq_true rfl)) ⟨Nat.le_of_ble_eq_true rfl, Nat.le_of_ble_eq_true rfl⟩ ⟨Nat.zero_le _, Nat.zero_le _⟩ dX11_buy_23 (fun H locs hP hD hS => ?_)
      refine lv_if_ne (tgt := 31) X.hx X.hb dX11_buy_26 (by decide) (fun hc_9 => ?_) (fun hc_9 => ?_)
      · replace hf := if_f hf hc_9
        refine lv_aload_n X.hx X.hb dX11_buy_31 rfl (lv_at hl 0 rfl) ?_
        refine lv_iload_n X.hx X.hb dX11_buy_32 rfl (lv_at hl 1 rfl) ?_
        refine lv_iload_n X.hx X.hb dX11_buy_33 rfl (lv_at hl 2 rfl) ?_
        refine lv_iload_n X.hx X.hb dX11_buy_34 rfl (lv_at hl 3 rfl) ?_
        obtain ⟨r_10, hc_11, hf⟩ := bd_i hf
        refine r_wvi (As := [.int p1, .int p2, .int p3]) (rest := []) X sm_X11_306 (c_X11_whyBuy l G N uY (va_up iY 0 0) sY tY jY p1 p2 p3 hc_11) hP hD hS hA 0 rfl rfl rfl hl.1 (lv_room (Nat.le_of_ble_eq_true rfl)) ⟨Nat.le_of_ble_eq_true rfl, Nat.le_of_ble_eq_true rfl⟩ ⟨Nat.zero_le _, Nat.zero_le _⟩ dX11_buy_35 (fun H locs hP hD hS => ?_)
        refine lv_istore (lv' := [(4, .int r_10), (0, .ref (uY 0)), (1, .int p1), (2, .int p2), (3, .int p3)]) X.hx X.hb dX11_buy_38 hl (by decide) rfl (fun ls hl => ?_)
        refine lv_iload X.hx X.hb dX11_buy_40 (lv_at hl 0 rfl) ?_
        refine lv_if_le (tgt := 48) X.hx X.hb dX11_buy_42 (by decide) (fun hc_12 => ?_) (fun hc_12 => ?_)
        · replace hf := if_t hf hc_12
          refine lv_aload_n X.hx X.hb dX11_buy_48 rfl (lv_at hl 1 rfl) ?_
          obtain ⟨⟨iY_13, sY_14⟩, hc_15, hf⟩ := bd_i hf
          refine r_wvv (As := []) (rest := []) X sm_X11_310 (c_X11_keep l G N uY (va_up iY 0 0) sY tY jY hc_15) hP hD hS hA 0 rfl rfl rfl hl.1 (lv_room (Nat.le_of_ble_eq_true rfl)) ⟨Nat.le_of_ble_eq_true rfl, Nat.le_of_ble_eq_true rfl⟩ ⟨Nat.zero_le _, Nat.zero_le _⟩ dX11_buy_49 (fun H locs hP hD hS => ?_)
          refine lv_aload_n X.hx X.hb dX11_buy_52 rfl (lv_at hl 1 rfl) ?_
          refine lv_iload_n X.hx X.hb dX11_buy_53 rfl (lv_at hl 2 rfl) ?_
          refine lv_iload_n X.hx X.hb dX11_buy_54 rfl (lv_at hl 3 rfl) ?_
          refine lv_iload_n X.hx X.hb dX11_buy_55 rfl (lv_at hl 4 rfl) ?_
          obtain ⟨sY_16, hc_17, hf⟩ := bd_i hf
          refine r_wvv (As := [.int p1, .int p2, .int p3]) (rest := []) X sm_X11_313 (c_X11_buys l G N uY iY_13 sY_14 tY jY p1 p2 p3 hc_17) hP hD hS hA 0 rfl rfl rfl hl.1 (lv_room (Nat.le_of_ble_eq_true rfl)) ⟨Nat.le_of_ble_eq_true rfl, Nat.le_of_ble_eq_true rfl⟩ ⟨Nat.zero_le _, Nat.zero_le _⟩ dX11_buy_56 (fun H locs hP hD hS => ?_)
          refine lv_iconst (v := 0) X.hx X.hb dX11_buy_59 (by decide) ?_
          cases hf
          subst hQ
          exact r_iret X hP hD hS dX11_buy_60
        · replace hf := if_f hf hc_12
          refine lv_iload X.hx X.hb dX11_buy_45 (lv_at hl 0 rfl) ?_
          cases hf
          subst hQ
          exact r_iret X hP hD hS dX11_buy_47
      · replace hf := if_t hf hc_9
        refine lv_iconst (v := (-1)) X.hx X.hb dX11_buy_29 (by decide) ?_
        cases hf
        subst hQ
        exact r_iret X hP hD hS dX11_buy_30

def f_X11_nod (N : Nat) (iY : Nat → Int32) (sY : Nat → Nat → Int32) (tY : Nat → Nat → Int64) (jY : Nat → Int64) (p1 : Int32) (p2 : Int32) : Option (Int32 × (Nat → Int32) × (Nat → Nat → Int32)) :=
  bd (f_X11_isPerson N (va_up iY 0 0) sY tY jY p1) (fun r_1 => (if r_1 = 0 then some ((-1), (va_up iY 0 0), sY) else bd (f_X11_isPerson N (va_up iY 0 0) sY tY jY p2) (fun r_4 => (if r_4 = 0 then some ((-1), (va_up iY 0 0), sY) else bd (f_X11_whyNod N (va_up iY 0 0) sY tY jY p1 p2) (fun r_7 => (if r_7 ≤ 0 then bd (f_X11_keep N (va_up iY 0 0) sY tY jY) (fun (iY_10, sY_11) => bd (f_X11_nods N iY_10 sY_11 tY jY p1 p2) (fun sY_13 => some (0, iY_10, sY_13))) else some (r_7, (va_up iY 0 0), sY)))))))
set_option maxHeartbeats 4000000 in
set_option maxRecDepth 100000 in
theorem c_X11_nod (l : Launch) (G : GT) (N : Nat) (uY : Nat → Nat) (iY : Nat → Int32) (sY : Nat → Nat → Int32) (tY : Nat → Nat → Int64) (jY : Nat → Int64) (p1 : Int32) (p2 : Int32) {r : Int32} {iY' : Nat → Int32} {sY' : Nat → Nat → Int32} (hf : f_X11_nod N iY sY tY jY p1 p2 = some (r, iY', sY')) : CI l G yX11_nod cX11_nod 4 .int 4 [.ref (uY 0), .int p1, .int p2] (gY G uY iY sY tY jY) r (gY G uY iY' sY' tY jY) := by
  refine CI.of (by decide) (Nat.le_of_ble_eq_true rfl) ?_
  intro p e s m args below meth c A X hA hP hD hS ls hl
  have hl : lv_has ls 4 [(0, .ref (uY 0)), (1, .int p1), (2, .int p2)] := hl
  generalize hQ : MQ below (QI G A r (gY G uY iY' sY' tY jY)) args s 0 0 A = QQ
  unfold f_X11_nod at hf
  refine lv_aload_n X.hx X.hb dX11_nod_0 rfl (lv_at hl 0 rfl) ?_
  refine lv_iconst (v := 0) X.hx X.hb dX11_nod_1 (by decide) ?_
  refine pf_X11_1 X hP hD hS 0 rfl rfl rfl (Nat.le_of_ble_eq_true rfl) (wo := (gY G uY (va_up iY 0 0) sY tY jY)) rfl dX11_nod_2 (fun H locs hP hD hS => ?_)
  refine lv_aload_n X.hx X.hb dX11_nod_5 rfl (lv_at hl 0 rfl) ?_
  refine lv_iload_n X.hx X.hb dX11_nod_6 rfl (lv_at hl 1 rfl) ?_
  obtain ⟨r_1, hc_2, hf⟩ := bd_i hf
  refine r_wvi (As := [.int p1]) (rest := []) X sm_X11_272 (c_X11_isPerson l G N uY (va_up iY 0 0) sY tY jY p1 hc_2) hP hD hS hA 0 rfl rfl rfl hl.1 (lv_room (Nat.le_of_ble_eq_true rfl)) ⟨Nat.le_of_ble_eq_true rfl, Nat.le_of_ble_eq_true rfl⟩ ⟨Nat.zero_le _, Nat.zero_le _⟩ dX11_nod_7 (fun H locs hP hD hS => ?_)
  refine lv_if_eq (tgt := 21) X.hx X.hb dX11_nod_10 (by decide) (fun hc_3 => ?_) (fun hc_3 => ?_)
  · replace hf := if_t hf hc_3
    refine lv_iconst (v := (-1)) X.hx X.hb dX11_nod_21 (by decide) ?_
    cases hf
    subst hQ
    exact r_iret X hP hD hS dX11_nod_22
  · replace hf := if_f hf hc_3
    refine lv_aload_n X.hx X.hb dX11_nod_13 rfl (lv_at hl 0 rfl) ?_
    refine lv_iload_n X.hx X.hb dX11_nod_14 rfl (lv_at hl 2 rfl) ?_
    obtain ⟨r_4, hc_5, hf⟩ := bd_i hf
    refine r_wvi (As := [.int p2]) (rest := []) X sm_X11_272 (c_X11_isPerson l G N uY (va_up iY 0 0) sY tY jY p2 hc_5) hP hD hS hA 0 rfl rfl rfl hl.1 (lv_room (Nat.le_of_ble_eq_true rfl)) ⟨Nat.le_of_ble_eq_true rfl, Nat.le_of_ble_eq_true rfl⟩ ⟨Nat.zero_le _, Nat.zero_le _⟩ dX11_nod_15 (fun H locs hP hD hS => ?_)
    refine lv_if_ne (tgt := 23) X.hx X.hb dX11_nod_18 (by decide) (fun hc_6 => ?_) (fun hc_6 => ?_)
    · replace hf := if_f hf hc_6
      refine lv_aload_n X.hx X.hb dX11_nod_23 rfl (lv_at hl 0 rfl) ?_
      refine lv_iload_n X.hx X.hb dX11_nod_24 rfl (lv_at hl 1 rfl) ?_
      refine lv_iload_n X.hx X.hb dX11_nod_25 rfl (lv_at hl 2 rfl) ?_
      obtain ⟨r_7, hc_8, hf⟩ := bd_i hf
      refine r_wvi (As := [.int p1, .int p2]) (rest := []) X sm_X11_317 (c_X11_whyNod l G N uY (va_up iY 0 0) sY tY jY p1 p2 hc_8) hP hD hS hA 0 rfl rfl rfl hl.1 (lv_room (Nat.le_of_ble_eq_true rfl)) ⟨Nat.le_of_ble_eq_true rfl, Nat.le_of_ble_eq_true rfl⟩ ⟨Nat.zero_le _, Nat.zero_le _⟩ dX11_nod_26 (fun H locs hP hD hS => ?_)
      refine lv_istore_n (lv' := [(3, .int r_7), (0, .ref (uY 0)), (1, .int p1), (2, .int p2)]) X.hx X.hb dX11_nod_29 rfl hl (by decide) rfl (fun ls hl => ?_)
      refine lv_iload_n X.hx X.hb dX11_nod_30 rfl (lv_at hl 0 rfl) ?_
      refine lv_if_le (tgt := 36) X.hx X.hb dX11_nod_31 (by decide) (fun hc_9 => ?_) (fun hc_9 => ?_)
      · replace hf := if_t hf hc_9
        refine lv_aload_n X.hx X.hb dX11_nod_36 rfl (lv_at hl 1 rfl) ?_
        obtain ⟨⟨iY_10, sY_11⟩, hc_12, hf⟩ := bd_i hf
        refine r_wvv (As := []) (rest := []) X sm_X11_310 (c_X11_keep l G N uY (va_up iY 0 0) sY tY jY hc_12) hP hD hS hA 0 rfl rfl rfl hl.1 (lv_room (Nat.le_of_ble_eq_true rfl)) ⟨Nat.le_of_ble_eq_true rfl, Nat.le_of_ble_eq_true rfl⟩ ⟨Nat.zero_le _, Nat.zero_le _⟩ dX11_nod_37 (fun H locs hP hD hS => ?_)
        refine lv_aload_n X.hx X.hb dX11_nod_40 rfl (lv_at hl 1 rfl) ?_
        refine lv_iload_n X.hx X.hb dX11_nod_41 rfl (lv_at hl 2 rfl) ?_
        refine lv_iload_n X.hx X.hb dX11_nod_42 rfl (lv_at hl 3 rfl) ?_
        obtain ⟨sY_13, hc_14, hf⟩ := bd_i hf
        refine r_wvv (As := [.int p1, .int p2]) (rest := []) X sm_X11_320 (c_X11_nods l G N uY iY_10 sY_11 tY jY p1 p2 hc_14) hP hD hS hA 0 rfl rfl rfl hl.1 (lv_room (Nat.le_of_ble_eq_true rfl)) ⟨Nat.le_of_ble_eq_true rfl, Nat.le_of_ble_eq_true rfl⟩ ⟨Nat.zero_le _, Nat.zero_le _⟩ dX11_nod_43 (fun H locs hP hD hS => ?_)
        refine lv_iconst (v := 0) X.hx X.hb dX11_nod_46 (by decide) ?_
        cases hf
        subst hQ
        exact r_iret X hP hD hS dX11_nod_47
      · replace hf := if_f hf hc_9
        refine lv_iload_n X.hx X.hb dX11_nod_34 rfl (lv_at hl 0 rfl) ?_
        cases hf
        subst hQ
        exact r_iret X hP hD hS dX11_nod_35
    · replace hf := if_t hf hc_6
      refine lv_iconst (v := (-1)) X.hx X.hb dX11_nod_21 (by decide) ?_
      cases hf
      subst hQ
      exact r_iret X hP hD hS dX11_nod_22

def f_X11_veil (N : Nat) (iY : Nat → Int32) (sY : Nat → Nat → Int32) (tY : Nat → Nat → Int64) (jY : Nat → Int64) (p1 : Int32) : Option (Int32 × (Nat → Int32) × (Nat → Nat → Int32)) :=
  bd (f_X11_isPerson N (va_up iY 0 0) sY tY jY p1) (fun r_1 => (if r_1 = 0 then some ((-1), (va_up iY 0 0), sY) else bd (f_X11_whyVeil N (va_up iY 0 0) sY tY jY p1) (fun r_4 => (if r_4 ≤ 0 then bd (f_X11_keep N (va_up iY 0 0) sY tY jY) (fun (iY_7, sY_8) => bd (f_X11_veils N iY_7 sY_8 tY jY p1) (fun sY_10 => some (0, iY_7, sY_10))) else some (r_4, (va_up iY 0 0), sY)))))
set_option maxHeartbeats 4000000 in
set_option maxRecDepth 100000 in
theorem c_X11_veil (l : Launch) (G : GT) (N : Nat) (uY : Nat → Nat) (iY : Nat → Int32) (sY : Nat → Nat → Int32) (tY : Nat → Nat → Int64) (jY : Nat → Int64) (p1 : Int32) {r : Int32} {iY' : Nat → Int32} {sY' : Nat → Nat → Int32} (hf : f_X11_veil N iY sY tY jY p1 = some (r, iY', sY')) : CI l G yX11_veil cX11_veil 3 .int 4 [.ref (uY 0), .int p1] (gY G uY iY sY tY jY) r (gY G uY iY' sY' tY jY) := by
  refine CI.of (by decide) (Nat.le_of_ble_eq_true rfl) ?_
  intro p e s m args below meth c A X hA hP hD hS ls hl
  have hl : lv_has ls 3 [(0, .ref (uY 0)), (1, .int p1)] := hl
  generalize hQ : MQ below (QI G A r (gY G uY iY' sY' tY jY)) args s 0 0 A = QQ
  unfold f_X11_veil at hf
  refine lv_aload_n X.hx X.hb dX11_veil_0 rfl (lv_at hl 0 rfl) ?_
  refine lv_iconst (v := 0) X.hx X.hb dX11_veil_1 (by decide) ?_
  refine pf_X11_1 X hP hD hS 0 rfl rfl rfl (Nat.le_of_ble_eq_true rfl) (wo := (gY G uY (va_up iY 0 0) sY tY jY)) rfl dX11_veil_2 (fun H locs hP hD hS => ?_)
  refine lv_aload_n X.hx X.hb dX11_veil_5 rfl (lv_at hl 0 rfl) ?_
  refine lv_iload_n X.hx X.hb dX11_veil_6 rfl (lv_at hl 1 rfl) ?_
  obtain ⟨r_1, hc_2, hf⟩ := bd_i hf
  refine r_wvi (As := [.int p1]) (rest := []) X sm_X11_272 (c_X11_isPerson l G N uY (va_up iY 0 0) sY tY jY p1 hc_2) hP hD hS hA 0 rfl rfl rfl hl.1 (lv_room (Nat.le_of_ble_eq_true rfl)) ⟨Nat.le_of_ble_eq_true rfl, Nat.le_of_ble_eq_true rfl⟩ ⟨Nat.zero_le _, Nat.zero_le _⟩ dX11_veil_7 (fun H locs hP hD hS => ?_)
  refine lv_if_ne (tgt := 15) X.hx X.hb dX11_veil_10 (by decide) (fun hc_3 => ?_) (fun hc_3 => ?_)
  · replace hf := if_f hf hc_3
    refine lv_aload_n X.hx X.hb dX11_veil_15 rfl (lv_at hl 0 rfl) ?_
    refine lv_iload_n X.hx X.hb dX11_veil_16 rfl (lv_at hl 1 rfl) ?_
    obtain ⟨r_4, hc_5, hf⟩ := bd_i hf
    refine r_wvi (As := [.int p1]) (rest := []) X sm_X11_323 (c_X11_whyVeil l G N uY (va_up iY 0 0) sY tY jY p1 hc_5) hP hD hS hA 0 rfl rfl rfl hl.1 (lv_room (Nat.le_of_ble_eq_true rfl)) ⟨Nat.le_of_ble_eq_true rfl, Nat.le_of_ble_eq_true rfl⟩ ⟨Nat.zero_le _, Nat.zero_le _⟩ dX11_veil_17 (fun H locs hP hD hS => ?_)
    refine lv_istore_n (lv' := [(2, .int r_4), (0, .ref (uY 0)), (1, .int p1)]) X.hx X.hb dX11_veil_20 rfl hl (by decide) rfl (fun ls hl => ?_)
    refine lv_iload_n X.hx X.hb dX11_veil_21 rfl (lv_at hl 0 rfl) ?_
    refine lv_if_le (tgt := 27) X.hx X.hb dX11_veil_22 (by decide) (fun hc_6 => ?_) (fun hc_6 => ?_)
    · replace hf := if_t hf hc_6
      refine lv_aload_n X.hx X.hb dX11_veil_27 rfl (lv_at hl 1 rfl) ?_
      obtain ⟨⟨iY_7, sY_8⟩, hc_9, hf⟩ := bd_i hf
      refine r_wvv (As := []) (rest := []) X sm_X11_310 (c_X11_keep l G N uY (va_up iY 0 0) sY tY jY hc_9) hP hD hS hA 0 rfl rfl rfl hl.1 (lv_room (Nat.le_of_ble_eq_true rfl)) ⟨Nat.le_of_ble_eq_true rfl, Nat.le_of_ble_eq_true rfl⟩ ⟨Nat.zero_le _, Nat.zero_le _⟩ dX11_veil_28 (fun H locs hP hD hS => ?_)
      refine lv_aload_n X.hx X.hb dX11_veil_31 rfl (lv_at hl 1 rfl) ?_
      refine lv_iload_n X.hx X.hb dX11_veil_32 rfl (lv_at hl 2 rfl) ?_
      obtain ⟨sY_10, hc_11, hf⟩ := bd_i hf
      refine r_wvv (As := [.int p1]) (rest := []) X sm_X11_326 (c_X11_veils l G N uY iY_7 sY_8 tY jY p1 hc_11) hP hD hS hA 0 rfl rfl rfl hl.1 (lv_room (Nat.le_of_ble_eq_true rfl)) ⟨Nat.le_of_ble_eq_true rfl, Nat.le_of_ble_eq_true rfl⟩ ⟨Nat.zero_le _, Nat.zero_le _⟩ dX11_veil_33 (fun H locs hP hD hS => ?_)
      refine lv_iconst (v := 0) X.hx X.hb dX11_veil_36 (by decide) ?_
      cases hf
      subst hQ
      exact r_iret X hP hD hS dX11_veil_37
    · replace hf := if_f hf hc_6
      refine lv_iload_n X.hx X.hb dX11_veil_25 rfl (lv_at hl 0 rfl) ?_
      cases hf
      subst hQ
      exact r_iret X hP hD hS dX11_veil_26
  · replace hf := if_t hf hc_3
    refine lv_iconst (v := (-1)) X.hx X.hb dX11_veil_13 (by decide) ?_
    cases hf
    subst hQ
    exact r_iret X hP hD hS dX11_veil_14

def f_X11_tell (N : Nat) (iY : Nat → Int32) (sY : Nat → Nat → Int32) (tY : Nat → Nat → Int64) (jY : Nat → Int64) (p1 : Int32) (p2 : Int32) (p3 : Int32) : Option (Int32 × (Nat → Int32) × (Nat → Nat → Int32)) :=
  bd (f_X11_isPerson N (va_up iY 0 0) sY tY jY p1) (fun r_1 => (if r_1 = 0 then some ((-1), (va_up iY 0 0), sY) else bd (f_X11_isPerson N (va_up iY 0 0) sY tY jY p2) (fun r_4 => (if r_4 = 0 then some ((-1), (va_up iY 0 0), sY) else bd (f_X11_isPerson N (va_up iY 0 0) sY tY jY p3) (fun r_7 => (if r_7 = 0 then some ((-1), (va_up iY 0 0), sY) else bd (f_X11_whyTell N (va_up iY 0 0) sY tY jY p1 p2 p3) (fun r_10 => (if r_10 ≤ 0 then bd (f_X11_keep N (va_up iY 0 0) sY tY jY) (fun (iY_13, sY_14) => bd (f_X11_meets N iY_13 sY_14 tY jY p2 p3) (fun sY_16 => some (0, iY_13, sY_16))) else some (r_10, (va_up iY 0 0), sY)))))))))
set_option maxHeartbeats 4000000 in
set_option maxRecDepth 100000 in
theorem c_X11_tell (l : Launch) (G : GT) (N : Nat) (uY : Nat → Nat) (iY : Nat → Int32) (sY : Nat → Nat → Int32) (tY : Nat → Nat → Int64) (jY : Nat → Int64) (p1 : Int32) (p2 : Int32) (p3 : Int32) {r : Int32} {iY' : Nat → Int32} {sY' : Nat → Nat → Int32} (hf : f_X11_tell N iY sY tY jY p1 p2 p3 = some (r, iY', sY')) : CI l G yX11_tell cX11_tell 5 .int 3 [.ref (uY 0), .int p1, .int p2, .int p3] (gY G uY iY sY tY jY) r (gY G uY iY' sY' tY jY) := by
  refine CI.of (by decide) (Nat.le_of_ble_eq_true rfl) ?_
  intro p e s m args below meth c A X hA hP hD hS ls hl
  have hl : lv_has ls 5 [(0, .ref (uY 0)), (1, .int p1), (2, .int p2), (3, .int p3)] := hl
  generalize hQ : MQ below (QI G A r (gY G uY iY' sY' tY jY)) args s 0 0 A = QQ
  unfold f_X11_tell at hf
  refine lv_aload_n X.hx X.hb dX11_tell_0 rfl (lv_at hl 0 rfl) ?_
  refine lv_iconst (v := 0) X.hx X.hb dX11_tell_1 (by decide) ?_
  refine pf_X11_1 X hP hD hS 0 rfl rfl rfl (Nat.le_of_ble_eq_true rfl) (wo := (gY G uY (va_up iY 0 0) sY tY jY)) rfl dX11_tell_2 (fun H locs hP hD hS => ?_)
  refine lv_aload_n X.hx X.hb dX11_tell_5 rfl (lv_at hl 0 rfl) ?_
  refine lv_iload_n X.hx X.hb dX11_tell_6 rfl (lv_at hl 1 rfl) ?_
  obtain ⟨r_1, hc_2, hf⟩ := bd_i hf
  refine r_wvi (As := [.int p1]) (rest := []) X sm_X11_272 (c_X11_isPerson l G N uY (va_up iY 0 0) sY tY jY p1 hc_2) hP hD hS hA 0 rfl rfl rfl hl.1 (lv_room (Nat.le_of_ble_eq_true rfl)) ⟨Nat.le_of_ble_eq_true rfl, Nat.le_of_ble_eq_true rfl⟩ ⟨Nat.zero_le _, Nat.zero_le _⟩ dX11_tell_7 (fun H locs hP hD hS => ?_)
  refine lv_if_eq (tgt := 29) X.hx X.hb dX11_tell_10 (by decide) (fun hc_3 => ?_) (fun hc_3 => ?_)
  · replace hf := if_t hf hc_3
    refine lv_iconst (v := (-1)) X.hx X.hb dX11_tell_29 (by decide) ?_
    cases hf
    subst hQ
    exact r_iret X hP hD hS dX11_tell_30
  · replace hf := if_f hf hc_3
    refine lv_aload_n X.hx X.hb dX11_tell_13 rfl (lv_at hl 0 rfl) ?_
    refine lv_iload_n X.hx X.hb dX11_tell_14 rfl (lv_at hl 2 rfl) ?_
    obtain ⟨r_4, hc_5, hf⟩ := bd_i hf
    refine r_wvi (As := [.int p2]) (rest := []) X sm_X11_272 (c_X11_isPerson l G N uY (va_up iY 0 0) sY tY jY p2 hc_5) hP hD hS hA 0 rfl rfl rfl hl.1 (lv_room (Nat.le_of_ble_eq_true rfl)) ⟨Nat.le_of_ble_eq_true rfl, Nat.le_of_ble_eq_true rfl⟩ ⟨Nat.zero_le _, Nat.zero_le _⟩ dX11_tell_15 (fun H locs hP hD hS => ?_)
    refine lv_if_eq (tgt := 29) X.hx X.hb dX11_tell_18 (by decide) (fun hc_6 => ?_) (fun hc_6 => ?_)
    · replace hf := if_t hf hc_6
      refine lv_iconst (v := (-1)) X.hx X.hb dX11_tell_29 (by decide) ?_
      cases hf
      subst hQ
      exact r_iret X hP hD hS dX11_tell_30
    · replace hf := if_f hf hc_6
      refine lv_aload_n X.hx X.hb dX11_tell_21 rfl (lv_at hl 0 rfl) ?_
      refine lv_iload_n X.hx X.hb dX11_tell_22 rfl (lv_at hl 3 rfl) ?_
      obtain ⟨r_7, hc_8, hf⟩ := bd_i hf
      refine r_wvi (As := [.int p3]) (rest := []) X sm_X11_272 (c_X11_isPerson l G N uY (va_up iY 0 0) sY tY jY p3 hc_8) hP hD hS hA 0 rfl rfl rfl hl.1 (lv_room (Nat.le_of_ble_eq_true rfl)) ⟨Nat.le_of_ble_eq_true rfl, Nat.le_of_ble_eq_true rfl⟩ ⟨Nat.zero_le _, Nat.zero_le _⟩ dX11_tell_23 (fun H locs hP hD hS => ?_)
      refine lv_if_ne (tgt := 31) X.hx X.hb dX11_tell_26 (by decide) (fun hc_9 => ?_) (fun hc_9 => ?_)
      · replace hf := if_f hf hc_9
        refine lv_aload_n X.hx X.hb dX11_tell_31 rfl (lv_at hl 0 rfl) ?_
        refine lv_iload_n X.hx X.hb dX11_tell_32 rfl (lv_at hl 1 rfl) ?_
        refine lv_iload_n X.hx X.hb dX11_tell_33 rfl (lv_at hl 2 rfl) ?_
        refine lv_iload_n X.hx X.hb dX11_tell_34 rfl (lv_at hl 3 rfl) ?_
        obtain ⟨r_10, hc_11, hf⟩ := bd_i hf
        refine r_wvi (As := [.int p1, .int p2, .int p3]) (rest := []) X sm_X11_329 (c_X11_whyTell l G N uY (va_up iY 0 0) sY tY jY p1 p2 p3 hc_11) hP hD hS hA 0 rfl rfl rfl hl.1 (lv_room (Nat.le_of_ble_eq_true rfl)) ⟨Nat.le_of_ble_eq_true rfl, Nat.le_of_ble_eq_true rfl⟩ ⟨Nat.zero_le _, Nat.zero_le _⟩ dX11_tell_35 (fun H locs hP hD hS => ?_)
        refine lv_istore (lv' := [(4, .int r_10), (0, .ref (uY 0)), (1, .int p1), (2, .int p2), (3, .int p3)]) X.hx X.hb dX11_tell_38 hl (by decide) rfl (fun ls hl => ?_)
        refine lv_iload X.hx X.hb dX11_tell_40 (lv_at hl 0 rfl) ?_
        refine lv_if_le (tgt := 48) X.hx X.hb dX11_tell_42 (by decide) (fun hc_12 => ?_) (fun hc_12 => ?_)
        · replace hf := if_t hf hc_12
          refine lv_aload_n X.hx X.hb dX11_tell_48 rfl (lv_at hl 1 rfl) ?_
          obtain ⟨⟨iY_13, sY_14⟩, hc_15, hf⟩ := bd_i hf
          refine r_wvv (As := []) (rest := []) X sm_X11_310 (c_X11_keep l G N uY (va_up iY 0 0) sY tY jY hc_15) hP hD hS hA 0 rfl rfl rfl hl.1 (lv_room (Nat.le_of_ble_eq_true rfl)) ⟨Nat.le_of_ble_eq_true rfl, Nat.le_of_ble_eq_true rfl⟩ ⟨Nat.zero_le _, Nat.zero_le _⟩ dX11_tell_49 (fun H locs hP hD hS => ?_)
          refine lv_aload_n X.hx X.hb dX11_tell_52 rfl (lv_at hl 1 rfl) ?_
          refine lv_iload_n X.hx X.hb dX11_tell_53 rfl (lv_at hl 3 rfl) ?_
          refine lv_iload_n X.hx X.hb dX11_tell_54 rfl (lv_at hl 4 rfl) ?_
          obtain ⟨sY_16, hc_17, hf⟩ := bd_i hf
          refine r_wvv (As := [.int p2, .int p3]) (rest := []) X sm_X11_296 (c_X11_meets l G N uY iY_13 sY_14 tY jY p2 p3 hc_17) hP hD hS hA 0 rfl rfl rfl hl.1 (lv_room (Nat.le_of_ble_eq_true rfl)) ⟨Nat.le_of_ble_eq_true rfl, Nat.le_of_ble_eq_true rfl⟩ ⟨Nat.zero_le _, Nat.zero_le _⟩ dX11_tell_55 (fun H locs hP hD hS => ?_)
          refine lv_iconst (v := 0) X.hx X.hb dX11_tell_58 (by decide) ?_
          cases hf
          subst hQ
          exact r_iret X hP hD hS dX11_tell_59
        · replace hf := if_f hf hc_12
          refine lv_iload X.hx X.hb dX11_tell_45 (lv_at hl 0 rfl) ?_
          cases hf
          subst hQ
          exact r_iret X hP hD hS dX11_tell_47
      · replace hf := if_t hf hc_9
        refine lv_iconst (v := (-1)) X.hx X.hb dX11_tell_29 (by decide) ?_
        cases hf
        subst hQ
        exact r_iret X hP hD hS dX11_tell_30

def f_X11_days (N : Nat) (iY : Nat → Int32) (sY : Nat → Nat → Int32) (tY : Nat → Nat → Int64) (jY : Nat → Int64) (p1 : Int32) : Option (Int32 × (Nat → Int32) × (Nat → Nat → Int32)) :=
  bd (f_X11_isIn N p1 1 60) (fun r_1 => (if r_1 = 0 then some ((-1), (va_up iY 0 0), sY) else (if ((sY 6) 131) = 400 then some (0, (va_up iY 0 0), sY) else bd (f_X11_keep N (va_up iY 0 0) sY tY jY) (fun (iY_5, sY_6) => bd (f_X11_goesOn N iY_5 sY_6 tY jY p1) (fun (r_8, sY_9) => some (r_8, iY_5, sY_9))))))
set_option maxHeartbeats 4000000 in
set_option maxRecDepth 100000 in
theorem c_X11_days (l : Launch) (G : GT) (N : Nat) (uY : Nat → Nat) (iY : Nat → Int32) (sY : Nat → Nat → Int32) (tY : Nat → Nat → Int64) (jY : Nat → Int64) (p1 : Int32) {r : Int32} {iY' : Nat → Int32} {sY' : Nat → Nat → Int32} (hf : f_X11_days N iY sY tY jY p1 = some (r, iY', sY')) : CI l G yX11_days cX11_days 2 .int 4 [.ref (uY 0), .int p1] (gY G uY iY sY tY jY) r (gY G uY iY' sY' tY jY) := by
  refine CI.of (by decide) (Nat.le_of_ble_eq_true rfl) ?_
  intro p e s m args below meth c A X hA hP hD hS ls hl
  have hl : lv_has ls 2 [(0, .ref (uY 0)), (1, .int p1)] := hl
  generalize hQ : MQ below (QI G A r (gY G uY iY' sY' tY jY)) args s 0 0 A = QQ
  unfold f_X11_days at hf
  refine lv_aload_n X.hx X.hb dX11_days_0 rfl (lv_at hl 0 rfl) ?_
  refine lv_iconst (v := 0) X.hx X.hb dX11_days_1 (by decide) ?_
  refine pf_X11_1 X hP hD hS 0 rfl rfl rfl (Nat.le_of_ble_eq_true rfl) (wo := (gY G uY (va_up iY 0 0) sY tY jY)) rfl dX11_days_2 (fun H locs hP hD hS => ?_)
  refine lv_iload_n X.hx X.hb dX11_days_5 rfl (lv_at hl 1 rfl) ?_
  refine lv_iconst (v := 1) X.hx X.hb dX11_days_6 (by decide) ?_
  refine lv_bipush (v := 60) X.hx X.hb dX11_days_7 (by decide) ?_
  obtain ⟨r_1, hc_2, hf⟩ := bd_i hf
  refine r_cs0 (As := [.int p1, .int 1, .int 60]) (rest := []) X sm_X11_189 (c_X11_isIn l G N p1 1 60 hc_2) hP hD hS hA rfl hl.1 (lv_room (Nat.le_of_ble_eq_true rfl)) ⟨Nat.le_of_ble_eq_true rfl, Nat.le_of_ble_eq_true rfl⟩ ⟨Nat.zero_le _, Nat.zero_le _⟩ dX11_days_9 (fun H locs hP hD hS => ?_)
  refine lv_if_ne (tgt := 17) X.hx X.hb dX11_days_12 (by decide) (fun hc_3 => ?_) (fun hc_3 => ?_)
  · replace hf := if_f hf hc_3
    refine lv_aload_n X.hx X.hb dX11_days_17 rfl (lv_at hl 0 rfl) ?_
    refine gf_X11_33 X hP 0 rfl (v := .ref (uY 7)) rfl dX11_days_18 ?_
    refine lv_sipush (v := 131) X.hx X.hb dX11_days_21 (by decide) ?_
    refine r_iald X hP 2 (f := (sY 6)) rfl (vp_c rfl) dX11_days_24 ?_
    refine W.eq (g2 := F0 m 25 ls [.int ((sY 6) 131)]) rfl ?_
    refine lv_sipush (v := 400) X.hx X.hb dX11_days_25 (by decide) ?_
    refine lv_icmp_ne (tgt := 33) X.hx X.hb dX11_days_28 (by decide) (fun hc_4 => ?_) (fun hc_4 => ?_)
    · replace hf := if_f hf hc_4
      refine lv_aload_n X.hx X.hb dX11_days_33 rfl (lv_at hl 0 rfl) ?_
      obtain ⟨⟨iY_5, sY_6⟩, hc_7, hf⟩ := bd_i hf
      refine r_wvv (As := []) (rest := []) X sm_X11_310 (c_X11_keep l G N uY (va_up iY 0 0) sY tY jY hc_7) hP hD hS hA 0 rfl rfl rfl hl.1 (lv_room (Nat.le_of_ble_eq_true rfl)) ⟨Nat.le_of_ble_eq_true rfl, Nat.le_of_ble_eq_true rfl⟩ ⟨Nat.zero_le _, Nat.zero_le _⟩ dX11_days_34 (fun H locs hP hD hS => ?_)
      refine lv_aload_n X.hx X.hb dX11_days_37 rfl (lv_at hl 0 rfl) ?_
      refine lv_iload_n X.hx X.hb dX11_days_38 rfl (lv_at hl 1 rfl) ?_
      obtain ⟨⟨r_8, sY_9⟩, hc_10, hf⟩ := bd_i hf
      refine r_wvi (As := [.int p1]) (rest := []) X sm_X11_332 (c_X11_goesOn l G N uY iY_5 sY_6 tY jY p1 hc_10) hP hD hS hA 0 rfl rfl rfl hl.1 (lv_room (Nat.le_of_ble_eq_true rfl)) ⟨Nat.le_of_ble_eq_true rfl, Nat.le_of_ble_eq_true rfl⟩ ⟨Nat.zero_le _, Nat.zero_le _⟩ dX11_days_39 (fun H locs hP hD hS => ?_)
      cases hf
      subst hQ
      exact r_iret X hP hD hS dX11_days_42
    · replace hf := if_t hf hc_4
      refine lv_iconst (v := 0) X.hx X.hb dX11_days_31 (by decide) ?_
      cases hf
      subst hQ
      exact r_iret X hP hD hS dX11_days_32
  · replace hf := if_t hf hc_3
    refine lv_iconst (v := (-1)) X.hx X.hb dX11_days_15 (by decide) ?_
    cases hf
    subst hQ
    exact r_iret X hP hD hS dX11_days_16

def f_X11_undo_26 (N : Nat) (iY : Nat → Int32) (tY : Nat → Nat → Int64) (jY : Nat → Int64) : Nat → (Nat → Nat → Int32) → (Int32) → Option (Int32 × (Nat → Int32) × (Nat → Nat → Int32))
  | 0, _, _ => none
  | k + 1, sY, v1 => (if (145 : Int32) ≤ v1 then some ((iY 23), iY, sY) else ck (((145 : Int32) * (iY 23)) + v1) 1160 (ck ((131 : Int32) + v1) 457 (nv (upd (sY 6) (ix ((131 : Int32) + v1)) ((sY 21) (ix (((145 : Int32) * (iY 23)) + v1)))) (fun g_12 => f_X11_undo_26 N iY tY jY k (va_up sY 6 g_12) (v1 + 1)))))
def f_X11_undo (N : Nat) (iY : Nat → Int32) (sY : Nat → Nat → Int32) (tY : Nat → Nat → Int64) (jY : Nat → Int64) : Option (Int32 × (Nat → Int32) × (Nat → Nat → Int32)) :=
  (if (iY 23) = 0 then some ((-1), (va_up iY 0 0), sY) else f_X11_undo_26 N (va_up (va_up iY 0 0) 23 ((iY 23) - 1)) tY jY N sY 0)
set_option maxHeartbeats 4000000 in
set_option maxRecDepth 100000 in
theorem c_X11_undo (l : Launch) (G : GT) (N : Nat) (uY : Nat → Nat) (iY : Nat → Int32) (sY : Nat → Nat → Int32) (tY : Nat → Nat → Int64) (jY : Nat → Int64) {r : Int32} {iY' : Nat → Int32} {sY' : Nat → Nat → Int32} (hf : f_X11_undo N iY sY tY jY = some (r, iY', sY')) : CI l G yX11_undo cX11_undo 2 .int 1 [.ref (uY 0)] (gY G uY iY sY tY jY) r (gY G uY iY' sY' tY jY) := by
  refine CI.of (by decide) (Nat.le_of_ble_eq_true rfl) ?_
  intro p e s m args below meth c A X hA hP hD hS ls hl
  have hl : lv_has ls 2 [(0, .ref (uY 0))] := hl
  generalize hQ : MQ below (QI G A r (gY G uY iY' sY' tY jY)) args s 0 0 A = QQ
  unfold f_X11_undo at hf
  refine lv_aload_n X.hx X.hb dX11_undo_0 rfl (lv_at hl 0 rfl) ?_
  refine lv_iconst (v := 0) X.hx X.hb dX11_undo_1 (by decide) ?_
  refine pf_X11_1 X hP hD hS 0 rfl rfl rfl (Nat.le_of_ble_eq_true rfl) (wo := (gY G uY (va_up iY 0 0) sY tY jY)) rfl dX11_undo_2 (fun H locs hP hD hS => ?_)
  refine lv_aload_n X.hx X.hb dX11_undo_5 rfl (lv_at hl 0 rfl) ?_
  refine gf_X11_262 X hP 0 rfl (v := .int (iY 23)) rfl dX11_undo_6 ?_
  refine lv_if_ne (tgt := 14) X.hx X.hb dX11_undo_9 (by decide) (fun hc_1 => ?_) (fun hc_1 => ?_)
  · replace hf := if_f hf hc_1
    refine lv_aload_n X.hx X.hb dX11_undo_14 rfl (lv_at hl 0 rfl) ?_
    refine lv_dup X.hx X.hb dX11_undo_15 rfl ?_
    refine gf_X11_262 X hP 0 rfl (v := .int (iY 23)) rfl dX11_undo_16 ?_
    refine lv_iconst (v := 1) X.hx X.hb dX11_undo_19 (by decide) ?_
    refine lv_isub X.hx X.hb dX11_undo_20 ?_
    refine pf_X11_262 X hP hD hS 0 rfl rfl rfl (Nat.le_of_ble_eq_true rfl) (wo := (gY G uY (va_up (va_up iY 0 0) 23 ((iY 23) - 1)) sY tY jY)) rfl dX11_undo_21 (fun H locs hP hD hS => ?_)
    refine lv_iconst (v := 0) X.hx X.hb dX11_undo_24 (by decide) ?_
    refine lv_istore_n (lv' := [(1, .int 0), (0, .ref (uY 0))]) X.hx X.hb dX11_undo_25 rfl hl (by decide) rfl (fun ls hl => ?_)
    have hlo_2 : ∀ (k : Nat) (sY_3 : Nat → Nat → Int32) (v1_4 : Int32) (H : Heap) (locs : List Loc) (ls : Array Slot), f_X11_undo_26 N (va_up (va_up iY 0 0) 23 ((iY 23) - 1)) tY jY k sY_3 v1_4 = some (r, iY', sY') → va_P G.1 vwCl (gY G uY (va_up (va_up iY 0 0) 23 ((iY 23) - 1)) sY_3 tY jY) H → va_D A (gY G uY (va_up (va_up iY 0 0) 23 ((iY 23) - 1)) sY_3 tY jY) → va_S A s.heap H locs → lv_has ls 2 [(0, .ref (uY 0)), (1, .int v1_4)] → W p l e (RM 1) s m args below meth c H locs 0 0 QQ (F0 m 26 ls []) := by
      intro k
      induction k with
      | zero => intro sY_3 v1_4 H locs ls hf; exact absurd hf (by intro q; cases q)
      | succ k ih =>
        intro sY_3 v1_4 H locs ls hf hP hD hS hl
        unfold f_X11_undo_26 at hf
        refine lv_iload_n X.hx X.hb dX11_undo_26 rfl (lv_at hl 1 rfl) ?_
        refine lv_sipush (v := 145) X.hx X.hb dX11_undo_27 (by decide) ?_
        refine lv_icmp_ge (tgt := 64) X.hx X.hb dX11_undo_30 (by decide) (fun hc_5 => ?_) (fun hc_5 => ?_)
        · replace hf := if_t hf hc_5
          refine lv_aload_n X.hx X.hb dX11_undo_64 rfl (lv_at hl 0 rfl) ?_
          refine gf_X11_262 X hP 0 rfl (v := .int ((iY 23) - 1)) rfl dX11_undo_65 ?_
          cases hf
          subst hQ
          exact r_iret X hP hD hS dX11_undo_68
        · replace hf := if_f hf hc_5
          refine lv_aload_n X.hx X.hb dX11_undo_33 rfl (lv_at hl 0 rfl) ?_
          refine gf_X11_33 X hP 0 rfl (v := .ref (uY 7)) rfl dX11_undo_34 ?_
          refine lv_sipush (v := 131) X.hx X.hb dX11_undo_37 (by decide) ?_
          refine lv_iload_n X.hx X.hb dX11_undo_40 rfl (lv_at hl 1 rfl) ?_
          refine lv_iadd X.hx X.hb dX11_undo_41 ?_
          refine lv_aload_n X.hx X.hb dX11_undo_42 rfl (lv_at hl 0 rfl) ?_
          refine gf_X11_50 X hP 0 rfl (v := .ref (uY 22)) rfl dX11_undo_43 ?_
          refine lv_sipush (v := 145) X.hx X.hb dX11_undo_46 (by decide) ?_
          refine lv_aload_n X.hx X.hb dX11_undo_49 rfl (lv_at hl 0 rfl) ?_
          refine gf_X11_262 X hP 0 rfl (v := .int ((iY 23) - 1)) rfl dX11_undo_50 ?_
          refine lv_imul X.hx X.hb dX11_undo_53 ?_
          refine lv_iload_n X.hx X.hb dX11_undo_54 rfl (lv_at hl 1 rfl) ?_
          refine lv_iadd X.hx X.hb dX11_undo_55 ?_
          obtain ⟨hi_6, hf⟩ := ck_i hf
          refine r_iald X hP 7 (f := (sY_3 21)) rfl hi_6 dX11_undo_56 ?_
          obtain ⟨hi_7, hf⟩ := ck_i hf
          obtain ⟨g_8, eg_8, hf⟩ := nv_i hf
          refine r_iast X hP hD hS 2 (f := (sY_3 6)) rfl hi_7 (wo := (gY G uY (va_up (va_up iY 0 0) 23 ((iY 23) - 1)) (va_up sY_3 6 g_8) tY jY)) (by subst eg_8; rfl) dX11_undo_57 (fun H locs hP hD hS => ?_)
          refine lv_iinc (v := (v1_4 + 1)) (lv' := [(1, .int (v1_4 + 1)), (0, .ref (uY 0))]) X.hx X.hb dX11_undo_58 hl (k := 1) rfl rfl (by decide) rfl (fun ls hl => ?_)
          refine lv_goto (tgt := 26) X.hx X.hb dX11_undo_61 (by decide) ?_
          exact ih _ _ _ _ _ hf hP hD hS (lv_sub hl [1, 0] rfl)
    exact hlo_2 N _ _ _ _ _ hf hP hD hS (lv_sub hl [1, 0] rfl)
  · replace hf := if_t hf hc_1
    refine lv_iconst (v := (-1)) X.hx X.hb dX11_undo_12 (by decide) ?_
    cases hf
    subst hQ
    exact r_iret X hP hD hS dX11_undo_13

