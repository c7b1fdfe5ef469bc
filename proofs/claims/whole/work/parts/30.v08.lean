def f_X11_behind (N : Nat) (iY : Nat → Int32) (sY : Nat → Nat → Int32) (tY : Nat → Nat → Int64) (jY : Nat → Int64) : Option (Int32 × (Nat → Int32) × (Nat → Nat → Int32) × (Nat → Int64)) :=
  bd (f_X11_nots N iY sY tY jY) (fun (iY_1, sY_2) => bd (f_X11_isWord N iY_1 sY_2 tY jY 6385252) (fun r_4 => jn (fun (z : Unit) => match z with | () => bd (f_X11_isWord N iY_1 sY_2 tY jY 6385252) (fun r_9 => jn (fun (z : (Int32)) => match z with | y_14 => bd (f_X11_joins N iY_1 sY_2 tY jY y_14) (fun (iY_15, sY_16) => bd (f_X11_isWord N iY_15 sY_16 tY jY 6385252) (fun r_18 => jn (fun (z : (Int32)) => match z with | y_23 => ck (iY_15 45) 45 (nv (upd (sY_16 42) (ix (iY_15 45)) y_23) (fun g_25 => bd (f_X11_next N (va_up (va_up iY_15 45 ((iY_15 45) + 1)) 47 0) (va_up sY_16 42 g_25) tY jY) (fun (iY_26, jY_27) => some (1, iY_26, (va_up sY_16 42 g_25), jY_27))))) (fun K_20 => (if r_18 = 0 then K_20 22 else K_20 21))))) (fun K_11 => (if r_9 = 0 then K_11 22 else K_11 21)))) (fun K_6 => (if r_4 = 0 then bd (f_X11_isWord N iY_1 sY_2 tY jY 28530) (fun r_32 => (if r_32 = 0 then bd (f_X11_joins N iY_1 sY_2 tY jY 22) (fun (iY_35, sY_36) => bd (f_X11_isSign N iY_35 sY_36 tY jY 41) (fun r_38 => jn (fun (z : Unit) => match z with | () => bd (f_X11_bad N iY_35 sY_36 tY jY 1) (fun (r_43, iY_44) => zb r_43 (some (r_43, iY_44, sY_36, jY)))) (fun K_40 => (if r_38 = 0 then K_40 () else (if (iY_35 45) = 0 then K_40 () else bd (f_X11_next N (va_up (va_up iY_35 45 ((iY_35 45) - 1)) 46 ((iY_35 46) - 1)) sY_36 tY jY) (fun (iY_49, jY_50) => some (1, iY_49, sY_36, jY_50))))))) else K_6 ())) else K_6 ()))))
set_option maxHeartbeats 4000000 in
set_option maxRecDepth 100000 in
theorem c_X11_behind (l : Launch) (G : GT) (N : Nat) (uY : Nat → Nat) (iY : Nat → Int32) (sY : Nat → Nat → Int32) (tY : Nat → Nat → Int64) (jY : Nat → Int64) {r : Int32} {iY' : Nat → Int32} {sY' : Nat → Nat → Int32} {jY' : Nat → Int64} (hf : f_X11_behind N iY sY tY jY = some (r, iY', sY', jY')) : CI l G yX11_behind cX11_behind 1 .boolean 3 [.ref (uY 0)] (gY G uY iY sY tY jY) r (gY G uY iY' sY' tY jY') := by
  refine CI.of (by decide) (Nat.le_of_ble_eq_true rfl) ?_
  intro p e s m args below meth c A X hA hP hD hS ls hl
  have hl : lv_has ls 1 [(0, .ref (uY 0))] := hl
  generalize hQ : MQ below (QI G A r (gY G uY iY' sY' tY jY')) args s 0 0 A = QQ
  unfold f_X11_behind at hf
  refine lv_aload_n X.hx X.hb dX11_behind_0 rfl (lv_at hl 0 rfl) ?_
  obtain ⟨⟨iY_1, sY_2⟩, hc_3, hf⟩ := bd_i hf
  refine r_wvv (As := []) (rest := []) X sm_X11_452 (c_X11_nots l G N uY iY sY tY jY hc_3) hP hD hS hA 0 rfl rfl rfl hl.1 (lv_room (Nat.le_of_ble_eq_true rfl)) ⟨Nat.le_of_ble_eq_true rfl, Nat.le_of_ble_eq_true rfl⟩ ⟨Nat.zero_le _, Nat.zero_le _⟩ dX11_behind_1 (fun H locs hP hD hS => ?_)
  refine lv_aload_n X.hx X.hb dX11_behind_4 rfl (lv_at hl 0 rfl) ?_
  refine lv_ldc2 (v := 6385252) X.hx X.hb X.hown (X.hts _ tw_1308) dX11_behind_5 ?_
  obtain ⟨r_4, hc_5, hf⟩ := bd_i hf
  refine r_wvi (As := [.long 6385252]) (rest := []) X sm_X11_220 (c_X11_isWord l G N uY iY_1 sY_2 tY jY 6385252 hc_5) hP hD hS hA 0 rfl rfl rfl hl.1 (lv_room (Nat.le_of_ble_eq_true rfl)) ⟨Nat.le_of_ble_eq_true rfl, Nat.le_of_ble_eq_true rfl⟩ ⟨Nat.zero_le _, Nat.zero_le _⟩ dX11_behind_8 (fun H locs hP hD hS => ?_)
  obtain ⟨K_6, eK_8, hf⟩ := jn_i hf
  have hj_7 : ∀ (H : Heap) (locs : List Loc) (ls : Array Slot), K_6 () = some (r, iY', sY', jY') → va_P G.1 vwCl (gY G uY iY_1 sY_2 tY jY) H → va_D A (gY G uY iY_1 sY_2 tY jY) → va_S A s.heap H locs → lv_has ls 1 [(0, .ref (uY 0))] → W p l e (RM 3) s m args below meth c H locs 0 0 QQ (F0 m 24 ls []) := by
    intro  H locs ls hf hP hD hS hl
    rw [eK_8] at hf
    try dsimp only at hf
    refine lv_aload_n X.hx X.hb dX11_behind_24 rfl (lv_at hl 0 rfl) ?_
    refine lv_aload_n X.hx X.hb dX11_behind_25 rfl (lv_at hl 0 rfl) ?_
    refine lv_ldc2 (v := 6385252) X.hx X.hb X.hown (X.hts _ tw_1308) dX11_behind_26 ?_
    obtain ⟨r_9, hc_10, hf⟩ := bd_i hf
    refine r_wvi (As := [.long 6385252]) (rest := [.ref (uY 0)]) X sm_X11_220 (c_X11_isWord l G N uY iY_1 sY_2 tY jY 6385252 hc_10) hP hD hS hA 0 rfl rfl rfl hl.1 (lv_room (Nat.le_of_ble_eq_true rfl)) ⟨Nat.le_of_ble_eq_true rfl, Nat.le_of_ble_eq_true rfl⟩ ⟨Nat.zero_le _, Nat.zero_le _⟩ dX11_behind_29 (fun H locs hP hD hS => ?_)
    obtain ⟨K_11, eK_13, hf⟩ := jn_i hf
    have hj_12 : ∀ (y_14 : Int32) (H : Heap) (locs : List Loc) (ls : Array Slot), K_11 y_14 = some (r, iY', sY', jY') → va_P G.1 vwCl (gY G uY iY_1 sY_2 tY jY) H → va_D A (gY G uY iY_1 sY_2 tY jY) → va_S A s.heap H locs → lv_has ls 1 [(0, .ref (uY 0))] → W p l e (RM 3) s m args below meth c H locs 0 0 QQ (F0 m 42 ls [.int y_14, .ref (uY 0)]) := by
      intro y_14 H locs ls hf hP hD hS hl
      rw [eK_13] at hf
      try dsimp only at hf
      obtain ⟨⟨iY_15, sY_16⟩, hc_17, hf⟩ := bd_i hf
      refine r_wvv (As := [.int y_14]) (rest := []) X sm_X11_455 (c_X11_joins l G N uY iY_1 sY_2 tY jY y_14 hc_17) hP hD hS hA 0 rfl rfl rfl hl.1 (lv_room (Nat.le_of_ble_eq_true rfl)) ⟨Nat.le_of_ble_eq_true rfl, Nat.le_of_ble_eq_true rfl⟩ ⟨Nat.zero_le _, Nat.zero_le _⟩ dX11_behind_42 (fun H locs hP hD hS => ?_)
      refine lv_aload_n X.hx X.hb dX11_behind_45 rfl (lv_at hl 0 rfl) ?_
      refine gf_X11_80 X hP 0 rfl (v := .ref (uY 43)) rfl dX11_behind_46 ?_
      refine lv_aload_n X.hx X.hb dX11_behind_49 rfl (lv_at hl 0 rfl) ?_
      refine gf_X11_434 X hP 0 rfl (v := .int (iY_15 45)) rfl dX11_behind_50 ?_
      refine lv_aload_n X.hx X.hb dX11_behind_53 rfl (lv_at hl 0 rfl) ?_
      refine lv_ldc2 (v := 6385252) X.hx X.hb X.hown (X.hts _ tw_1308) dX11_behind_54 ?_
      obtain ⟨r_18, hc_19, hf⟩ := bd_i hf
      refine r_wvi (As := [.long 6385252]) (rest := [.int (iY_15 45), .ref (uY 43)]) X sm_X11_220 (c_X11_isWord l G N uY iY_15 sY_16 tY jY 6385252 hc_19) hP hD hS hA 0 rfl rfl rfl hl.1 (lv_room (Nat.le_of_ble_eq_true rfl)) ⟨Nat.le_of_ble_eq_true rfl, Nat.le_of_ble_eq_true rfl⟩ ⟨Nat.zero_le _, Nat.zero_le _⟩ dX11_behind_57 (fun H locs hP hD hS => ?_)
      obtain ⟨K_20, eK_22, hf⟩ := jn_i hf
      have hj_21 : ∀ (y_23 : Int32) (H : Heap) (locs : List Loc) (ls : Array Slot), K_20 y_23 = some (r, iY', sY', jY') → va_P G.1 vwCl (gY G uY iY_15 sY_16 tY jY) H → va_D A (gY G uY iY_15 sY_16 tY jY) → va_S A s.heap H locs → lv_has ls 1 [(0, .ref (uY 0))] → W p l e (RM 3) s m args below meth c H locs 0 0 QQ (F0 m 70 ls [.int y_23, .int (iY_15 45), .ref (uY 43)]) := by
        intro y_23 H locs ls hf hP hD hS hl
        rw [eK_22] at hf
        try dsimp only at hf
        obtain ⟨hi_24, hf⟩ := ck_i hf
        obtain ⟨g_25, eg_25, hf⟩ := nv_i hf
        refine r_iast X hP hD hS 16 (f := (sY_16 42)) rfl hi_24 (wo := (gY G uY iY_15 (va_up sY_16 42 g_25) tY jY)) (by subst eg_25; rfl) dX11_behind_70 (fun H locs hP hD hS => ?_)
        refine lv_aload_n X.hx X.hb dX11_behind_71 rfl (lv_at hl 0 rfl) ?_
        refine lv_dup X.hx X.hb dX11_behind_72 rfl ?_
        refine gf_X11_434 X hP 0 rfl (v := .int (iY_15 45)) rfl dX11_behind_73 ?_
        refine lv_iconst (v := 1) X.hx X.hb dX11_behind_76 (by decide) ?_
        refine lv_iadd X.hx X.hb dX11_behind_77 ?_
        refine pf_X11_434 X hP hD hS 0 rfl rfl rfl (Nat.le_of_ble_eq_true rfl) (wo := (gY G uY (va_up iY_15 45 ((iY_15 45) + 1)) (va_up sY_16 42 g_25) tY jY)) rfl dX11_behind_78 (fun H locs hP hD hS => ?_)
        refine lv_aload_n X.hx X.hb dX11_behind_81 rfl (lv_at hl 0 rfl) ?_
        refine lv_iconst (v := 0) X.hx X.hb dX11_behind_82 (by decide) ?_
        refine pf_X11_449 X hP hD hS 0 rfl (by decide) (by decide) (Nat.le_of_ble_eq_true rfl) (wo := (gY G uY (va_up (va_up iY_15 45 ((iY_15 45) + 1)) 47 0) (va_up sY_16 42 g_25) tY jY)) rfl dX11_behind_83 (fun H locs hP hD hS => ?_)
        refine lv_aload_n X.hx X.hb dX11_behind_86 rfl (lv_at hl 0 rfl) ?_
        obtain ⟨⟨iY_26, jY_27⟩, hc_28, hf⟩ := bd_i hf
        refine r_wvv (As := []) (rest := []) X sm_X11_186 (c_X11_next l G N uY (va_up (va_up iY_15 45 ((iY_15 45) + 1)) 47 0) (va_up sY_16 42 g_25) tY jY hc_28) hP hD hS hA 0 rfl rfl rfl hl.1 (lv_room (Nat.le_of_ble_eq_true rfl)) ⟨Nat.le_of_ble_eq_true rfl, Nat.le_of_ble_eq_true rfl⟩ ⟨Nat.zero_le _, Nat.zero_le _⟩ dX11_behind_87 (fun H locs hP hD hS => ?_)
        refine lv_iconst (v := 1) X.hx X.hb dX11_behind_90 (by decide) ?_
        cases hf
        subst hQ
        exact r_zret X hP hD hS (by decide) dX11_behind_91
      refine lv_if_eq (tgt := 68) X.hx X.hb dX11_behind_60 (by decide) (fun hc_29 => ?_) (fun hc_29 => ?_)
      · replace hf := if_t hf hc_29
        refine lv_bipush (v := 22) X.hx X.hb dX11_behind_68 (by decide) ?_
        exact hj_21 _ _ _ _ hf hP hD hS (lv_sub hl [0] rfl)
      · replace hf := if_f hf hc_29
        refine lv_bipush (v := 21) X.hx X.hb dX11_behind_63 (by decide) ?_
        refine lv_goto (tgt := 70) X.hx X.hb dX11_behind_65 (by decide) ?_
        exact hj_21 _ _ _ _ hf hP hD hS (lv_sub hl [0] rfl)
    refine lv_if_eq (tgt := 40) X.hx X.hb dX11_behind_32 (by decide) (fun hc_30 => ?_) (fun hc_30 => ?_)
    · replace hf := if_t hf hc_30
      refine lv_bipush (v := 22) X.hx X.hb dX11_behind_40 (by decide) ?_
      exact hj_12 _ _ _ _ hf hP hD hS (lv_sub hl [0] rfl)
    · replace hf := if_f hf hc_30
      refine lv_bipush (v := 21) X.hx X.hb dX11_behind_35 (by decide) ?_
      refine lv_goto (tgt := 42) X.hx X.hb dX11_behind_37 (by decide) ?_
      exact hj_12 _ _ _ _ hf hP hD hS (lv_sub hl [0] rfl)
  refine lv_if_ne (tgt := 24) X.hx X.hb dX11_behind_11 (by decide) (fun hc_31 => ?_) (fun hc_31 => ?_)
  · replace hf := if_f hf hc_31
    exact hj_7 _ _ _ hf hP hD hS (lv_sub hl [0] rfl)
  · replace hf := if_t hf hc_31
    refine lv_aload_n X.hx X.hb dX11_behind_14 rfl (lv_at hl 0 rfl) ?_
    refine lv_ldc2 (v := 28530) X.hx X.hb X.hown (X.hts _ tw_1307) dX11_behind_15 ?_
    obtain ⟨r_32, hc_33, hf⟩ := bd_i hf
    refine r_wvi (As := [.long 28530]) (rest := []) X sm_X11_220 (c_X11_isWord l G N uY iY_1 sY_2 tY jY 28530 hc_33) hP hD hS hA 0 rfl rfl rfl hl.1 (lv_room (Nat.le_of_ble_eq_true rfl)) ⟨Nat.le_of_ble_eq_true rfl, Nat.le_of_ble_eq_true rfl⟩ ⟨Nat.zero_le _, Nat.zero_le _⟩ dX11_behind_18 (fun H locs hP hD hS => ?_)
    refine lv_if_eq (tgt := 92) X.hx X.hb dX11_behind_21 (by decide) (fun hc_34 => ?_) (fun hc_34 => ?_)
    · replace hf := if_t hf hc_34
      refine lv_aload_n X.hx X.hb dX11_behind_92 rfl (lv_at hl 0 rfl) ?_
      refine lv_bipush (v := 22) X.hx X.hb dX11_behind_93 (by decide) ?_
      obtain ⟨⟨iY_35, sY_36⟩, hc_37, hf⟩ := bd_i hf
      refine r_wvv (As := [.int 22]) (rest := []) X sm_X11_455 (c_X11_joins l G N uY iY_1 sY_2 tY jY 22 hc_37) hP hD hS hA 0 rfl rfl rfl hl.1 (lv_room (Nat.le_of_ble_eq_true rfl)) ⟨Nat.le_of_ble_eq_true rfl, Nat.le_of_ble_eq_true rfl⟩ ⟨Nat.zero_le _, Nat.zero_le _⟩ dX11_behind_95 (fun H locs hP hD hS => ?_)
      refine lv_aload_n X.hx X.hb dX11_behind_98 rfl (lv_at hl 0 rfl) ?_
      refine lv_bipush (v := 41) X.hx X.hb dX11_behind_99 (by decide) ?_
      obtain ⟨r_38, hc_39, hf⟩ := bd_i hf
      refine r_wvi (As := [.int 41]) (rest := []) X sm_X11_180 (c_X11_isSign l G N uY iY_35 sY_36 tY jY 41 hc_39) hP hD hS hA 0 rfl rfl rfl hl.1 (lv_room (Nat.le_of_ble_eq_true rfl)) ⟨Nat.le_of_ble_eq_true rfl, Nat.le_of_ble_eq_true rfl⟩ ⟨Nat.zero_le _, Nat.zero_le _⟩ dX11_behind_101 (fun H locs hP hD hS => ?_)
      obtain ⟨K_40, eK_42, hf⟩ := jn_i hf
      have hj_41 : ∀ (H : Heap) (locs : List Loc) (ls : Array Slot), K_40 () = some (r, iY', sY', jY') → va_P G.1 vwCl (gY G uY iY_35 sY_36 tY jY) H → va_D A (gY G uY iY_35 sY_36 tY jY) → va_S A s.heap H locs → lv_has ls 1 [(0, .ref (uY 0))] → W p l e (RM 3) s m args below meth c H locs 0 0 QQ (F0 m 114 ls []) := by
        intro  H locs ls hf hP hD hS hl
        rw [eK_42] at hf
        try dsimp only at hf
        refine lv_aload_n X.hx X.hb dX11_behind_114 rfl (lv_at hl 0 rfl) ?_
        refine lv_iconst (v := 1) X.hx X.hb dX11_behind_115 (by decide) ?_
        obtain ⟨⟨r_43, iY_44⟩, hc_45, hf⟩ := bd_i hf
        refine r_wvi (As := [.int 1]) (rest := []) X sm_X11_183 (c_X11_bad l G N uY iY_35 sY_36 tY jY 1 hc_45) hP hD hS hA 0 rfl rfl rfl hl.1 (lv_room (Nat.le_of_ble_eq_true rfl)) ⟨Nat.le_of_ble_eq_true rfl, Nat.le_of_ble_eq_true rfl⟩ ⟨Nat.zero_le _, Nat.zero_le _⟩ dX11_behind_116 (fun H locs hP hD hS => ?_)
        obtain ⟨hb_46, hf⟩ := zb_i hf
        cases hf
        subst hQ
        exact r_zret X hP hD hS hb_46 dX11_behind_119
      refine lv_if_eq (tgt := 114) X.hx X.hb dX11_behind_104 (by decide) (fun hc_47 => ?_) (fun hc_47 => ?_)
      · replace hf := if_t hf hc_47
        exact hj_41 _ _ _ hf hP hD hS (lv_sub hl [0] rfl)
      · replace hf := if_f hf hc_47
        refine lv_aload_n X.hx X.hb dX11_behind_107 rfl (lv_at hl 0 rfl) ?_
        refine gf_X11_434 X hP 0 rfl (v := .int (iY_35 45)) rfl dX11_behind_108 ?_
        refine lv_if_ne (tgt := 120) X.hx X.hb dX11_behind_111 (by decide) (fun hc_48 => ?_) (fun hc_48 => ?_)
        · replace hf := if_f hf hc_48
          refine lv_aload_n X.hx X.hb dX11_behind_120 rfl (lv_at hl 0 rfl) ?_
          refine lv_dup X.hx X.hb dX11_behind_121 rfl ?_
          refine gf_X11_434 X hP 0 rfl (v := .int (iY_35 45)) rfl dX11_behind_122 ?_
          refine lv_iconst (v := 1) X.hx X.hb dX11_behind_125 (by decide) ?_
          refine lv_isub X.hx X.hb dX11_behind_126 ?_
          refine pf_X11_434 X hP hD hS 0 rfl rfl rfl (Nat.le_of_ble_eq_true rfl) (wo := (gY G uY (va_up iY_35 45 ((iY_35 45) - 1)) sY_36 tY jY)) rfl dX11_behind_127 (fun H locs hP hD hS => ?_)
          refine lv_aload_n X.hx X.hb dX11_behind_130 rfl (lv_at hl 0 rfl) ?_
          refine lv_dup X.hx X.hb dX11_behind_131 rfl ?_
          refine gf_X11_440 X hP 0 rfl (v := .int (iY_35 46)) rfl dX11_behind_132 ?_
          refine lv_iconst (v := 1) X.hx X.hb dX11_behind_135 (by decide) ?_
          refine lv_isub X.hx X.hb dX11_behind_136 ?_
          refine pf_X11_440 X hP hD hS 0 rfl rfl rfl (Nat.le_of_ble_eq_true rfl) (wo := (gY G uY (va_up (va_up iY_35 45 ((iY_35 45) - 1)) 46 ((iY_35 46) - 1)) sY_36 tY jY)) rfl dX11_behind_137 (fun H locs hP hD hS => ?_)
          refine lv_aload_n X.hx X.hb dX11_behind_140 rfl (lv_at hl 0 rfl) ?_
          obtain ⟨⟨iY_49, jY_50⟩, hc_51, hf⟩ := bd_i hf
          refine r_wvv (As := []) (rest := []) X sm_X11_186 (c_X11_next l G N uY (va_up (va_up iY_35 45 ((iY_35 45) - 1)) 46 ((iY_35 46) - 1)) sY_36 tY jY hc_51) hP hD hS hA 0 rfl rfl rfl hl.1 (lv_room (Nat.le_of_ble_eq_true rfl)) ⟨Nat.le_of_ble_eq_true rfl, Nat.le_of_ble_eq_true rfl⟩ ⟨Nat.zero_le _, Nat.zero_le _⟩ dX11_behind_141 (fun H locs hP hD hS => ?_)
          refine lv_iconst (v := 1) X.hx X.hb dX11_behind_144 (by decide) ?_
          cases hf
          subst hQ
          exact r_zret X hP hD hS (by decide) dX11_behind_145
        · replace hf := if_t hf hc_48
          exact hj_41 _ _ _ hf hP hD hS (lv_sub hl [0] rfl)
    · replace hf := if_f hf hc_34
      exact hj_7 _ _ _ hf hP hD hS (lv_sub hl [0] rfl)

def f_X11_sentence_146 (N : Nat) (iY : Nat → Int32) (tY : Nat → Nat → Int64) (jY : Nat → Int64) : Nat → (Nat → Nat → Int32) → (Int32) → Option (Int32 × (Nat → Int32) × (Nat → Nat → Int32) × (Nat → Int64))
  | 0, _, _ => none
  | k + 1, sY, v2 => (if ((3 : Int32) * (iY 43)) ≤ v2 then some ((iY 44), iY, sY, jY) else ck v2 160 (ck ((277 : Int32) + v2) 457 (nv (upd (sY 6) (ix ((277 : Int32) + v2)) ((sY 8) (ix v2))) (fun g_23 => f_X11_sentence_146 N iY tY jY k (va_up sY 6 g_23) (v2 + 1)))))
def f_X11_sentence_48 (N : Nat) (tY : Nat → Nat → Int64) (K_36 : ((Nat → Int32) × (Nat → Nat → Int32) × (Nat → Int64)) → Option (Int32 × (Nat → Int32) × (Nat → Nat → Int32) × (Nat → Int64))) (K_30 : ((Nat → Int32) × (Nat → Nat → Int32) × (Nat → Int64)) → Option (Int32 × (Nat → Int32) × (Nat → Nat → Int32) × (Nat → Int64))) (K_24 : ((Nat → Int32) × (Nat → Nat → Int32) × (Nat → Int64)) → Option (Int32 × (Nat → Int32) × (Nat → Nat → Int32) × (Nat → Int64))) (K_6 : ((Nat → Int32) × (Nat → Nat → Int32) × (Nat → Int64)) → Option (Int32 × (Nat → Int32) × (Nat → Nat → Int32) × (Nat → Int64))) : Nat → (Nat → Int32) → (Nat → Nat → Int32) → (Nat → Int64) → (Int32) → Option (Int32 × (Nat → Int32) × (Nat → Nat → Int32) × (Nat → Int64))
  | 0, _, _, _, _ => none
  | k + 1, iY, sY, jY, v1 => (if v1 = 0 then K_6 (iY, sY, jY) else jn (fun (z : Unit) => match z with | () => (if (iY 47) = 0 then bd (f_X11_operand N iY sY tY jY) (fun (r_81, iY_82, sY_83, jY_84) => (if r_81 = 0 then K_24 (iY_82, sY_83, jY_84) else f_X11_sentence_48 N tY K_36 K_30 K_24 K_6 k iY_82 sY_83 jY_84 v1)) else bd (f_X11_behind N iY sY tY jY) (fun (r_87, iY_88, sY_89, jY_90) => (if r_87 = 0 then K_30 (iY_88, sY_89, jY_90) else f_X11_sentence_48 N tY K_36 K_30 K_24 K_6 k iY_88 sY_89 jY_90 v1)))) (fun K_77 => (if (iY 47) = 0 then K_77 () else (if (iY 11) = 0 then bd (f_X11_nots N iY sY tY jY) (fun (iY_95, sY_96) => bd (f_X11_joins N iY_95 sY_96 tY jY 22) (fun (iY_98, sY_99) => (if (iY_98 45) ≤ 0 then f_X11_sentence_48 N tY K_36 K_30 K_24 K_6 k iY_98 sY_99 jY 0 else K_36 (iY_98, sY_99, jY)))) else K_77 ()))))
def f_X11_sentence (N : Nat) (iY : Nat → Int32) (sY : Nat → Nat → Int32) (tY : Nat → Nat → Int64) (jY : Nat → Int64) : Option (Int32 × (Nat → Int32) × (Nat → Nat → Int32) × (Nat → Int64)) :=
  bd (f_X11_taken N (va_up iY 0 0) sY tY jY 200) (fun iY_1 => bd (f_X11_next N (va_up (va_up (va_up (va_up (va_up (va_up iY_1 15 0) 43 0) 44 0) 45 0) 46 1) 47 0) sY tY jY) (fun (iY_3, jY_4) => jn (fun (z : (Nat → Int32) × (Nat → Nat → Int32) × (Nat → Int64)) => match z with | (iY_9, sY_10, jY_11) => nv (upd (sY_10 6) 276 (iY_9 43)) (fun g_12 => f_X11_sentence_146 N iY_9 tY jY_11 N (va_up sY_10 6 g_12) 0)) (fun K_6 => jn (fun (z : (Nat → Int32) × (Nat → Nat → Int32) × (Nat → Int64)) => match z with | (iY_27, sY_28, jY_29) => some (((-1 : Int32) - (iY_27 16)), iY_27, sY_28, jY_29)) (fun K_24 => jn (fun (z : (Nat → Int32) × (Nat → Nat → Int32) × (Nat → Int64)) => match z with | (iY_33, sY_34, jY_35) => K_24 (iY_33, sY_34, jY_35)) (fun K_30 => jn (fun (z : (Nat → Int32) × (Nat → Nat → Int32) × (Nat → Int64)) => match z with | (iY_39, sY_40, jY_41) => bd (f_X11_bad N iY_39 sY_40 tY jY_41 1) (fun (r_42, iY_43) => some (((-1 : Int32) - (iY_43 16)), iY_43, sY_40, jY_41))) (fun K_36 => f_X11_sentence_48 N tY K_36 K_30 K_24 K_6 N iY_3 sY jY_4 1))))))
set_option maxHeartbeats 4000000 in
set_option maxRecDepth 100000 in
theorem c_X11_sentence (l : Launch) (G : GT) (N : Nat) (uY : Nat → Nat) (iY : Nat → Int32) (sY : Nat → Nat → Int32) (tY : Nat → Nat → Int64) (jY : Nat → Int64) {r : Int32} {iY' : Nat → Int32} {sY' : Nat → Nat → Int32} {jY' : Nat → Int64} (hf : f_X11_sentence N iY sY tY jY = some (r, iY', sY', jY')) : CI l G yX11_sentence cX11_sentence 3 .int 4 [.ref (uY 0)] (gY G uY iY sY tY jY) r (gY G uY iY' sY' tY jY') := by
  refine CI.of (by decide) (Nat.le_of_ble_eq_true rfl) ?_
  intro p e s m args below meth c A X hA hP hD hS ls hl
  have hl : lv_has ls 3 [(0, .ref (uY 0))] := hl
  generalize hQ : MQ below (QI G A r (gY G uY iY' sY' tY jY')) args s 0 0 A = QQ
  unfold f_X11_sentence at hf
  refine lv_aload_n X.hx X.hb dX11_sentence_0 rfl (lv_at hl 0 rfl) ?_
  refine lv_iconst (v := 0) X.hx X.hb dX11_sentence_1 (by decide) ?_
  refine pf_X11_1 X hP hD hS 0 rfl rfl rfl (Nat.le_of_ble_eq_true rfl) (wo := (gY G uY (va_up iY 0 0) sY tY jY)) rfl dX11_sentence_2 (fun H locs hP hD hS => ?_)
  refine lv_aload_n X.hx X.hb dX11_sentence_5 rfl (lv_at hl 0 rfl) ?_
  refine lv_sipush (v := 200) X.hx X.hb dX11_sentence_6 (by decide) ?_
  obtain ⟨iY_1, hc_2, hf⟩ := bd_i hf
  refine r_wvv (As := [.int 200]) (rest := []) X sm_X11_247 (c_X11_taken l G N uY (va_up iY 0 0) sY tY jY 200 hc_2) hP hD hS hA 0 rfl rfl rfl hl.1 (lv_room (Nat.le_of_ble_eq_true rfl)) ⟨Nat.le_of_ble_eq_true rfl, Nat.le_of_ble_eq_true rfl⟩ ⟨Nat.zero_le _, Nat.zero_le _⟩ dX11_sentence_9 (fun H locs hP hD hS => ?_)
  refine lv_aload_n X.hx X.hb dX11_sentence_12 rfl (lv_at hl 0 rfl) ?_
  refine lv_iconst (v := 0) X.hx X.hb dX11_sentence_13 (by decide) ?_
  refine pf_X11_174 X hP hD hS 0 rfl rfl rfl (Nat.le_of_ble_eq_true rfl) (wo := (gY G uY (va_up iY_1 15 0) sY tY jY)) rfl dX11_sentence_14 (fun H locs hP hD hS => ?_)
  refine lv_aload_n X.hx X.hb dX11_sentence_17 rfl (lv_at hl 0 rfl) ?_
  refine lv_iconst (v := 0) X.hx X.hb dX11_sentence_18 (by decide) ?_
  refine pf_X11_431 X hP hD hS 0 rfl rfl rfl (Nat.le_of_ble_eq_true rfl) (wo := (gY G uY (va_up (va_up iY_1 15 0) 43 0) sY tY jY)) rfl dX11_sentence_19 (fun H locs hP hD hS => ?_)
  refine lv_aload_n X.hx X.hb dX11_sentence_22 rfl (lv_at hl 0 rfl) ?_
  refine lv_iconst (v := 0) X.hx X.hb dX11_sentence_23 (by decide) ?_
  refine pf_X11_446 X hP hD hS 0 rfl rfl rfl (Nat.le_of_ble_eq_true rfl) (wo := (gY G uY (va_up (va_up (va_up iY_1 15 0) 43 0) 44 0) sY tY jY)) rfl dX11_sentence_24 (fun H locs hP hD hS => ?_)
  refine lv_aload_n X.hx X.hb dX11_sentence_27 rfl (lv_at hl 0 rfl) ?_
  refine lv_iconst (v := 0) X.hx X.hb dX11_sentence_28 (by decide) ?_
  refine pf_X11_434 X hP hD hS 0 rfl rfl rfl (Nat.le_of_ble_eq_true rfl) (wo := (gY G uY (va_up (va_up (va_up (va_up iY_1 15 0) 43 0) 44 0) 45 0) sY tY jY)) rfl dX11_sentence_29 (fun H locs hP hD hS => ?_)
  refine lv_aload_n X.hx X.hb dX11_sentence_32 rfl (lv_at hl 0 rfl) ?_
  refine lv_iconst (v := 1) X.hx X.hb dX11_sentence_33 (by decide) ?_
  refine pf_X11_440 X hP hD hS 0 rfl rfl rfl (Nat.le_of_ble_eq_true rfl) (wo := (gY G uY (va_up (va_up (va_up (va_up (va_up iY_1 15 0) 43 0) 44 0) 45 0) 46 1) sY tY jY)) rfl dX11_sentence_34 (fun H locs hP hD hS => ?_)
  refine lv_aload_n X.hx X.hb dX11_sentence_37 rfl (lv_at hl 0 rfl) ?_
  refine lv_iconst (v := 0) X.hx X.hb dX11_sentence_38 (by decide) ?_
  refine pf_X11_449 X hP hD hS 0 rfl (by decide) (by decide) (Nat.le_of_ble_eq_true rfl) (wo := (gY G uY (va_up (va_up (va_up (va_up (va_up (va_up iY_1 15 0) 43 0) 44 0) 45 0) 46 1) 47 0) sY tY jY)) rfl dX11_sentence_39 (fun H locs hP hD hS => ?_)
  refine lv_aload_n X.hx X.hb dX11_sentence_42 rfl (lv_at hl 0 rfl) ?_
  obtain ⟨⟨iY_3, jY_4⟩, hc_5, hf⟩ := bd_i hf
  refine r_wvv (As := []) (rest := []) X sm_X11_186 (c_X11_next l G N uY (va_up (va_up (va_up (va_up (va_up (va_up iY_1 15 0) 43 0) 44 0) 45 0) 46 1) 47 0) sY tY jY hc_5) hP hD hS hA 0 rfl rfl rfl hl.1 (lv_room (Nat.le_of_ble_eq_true rfl)) ⟨Nat.le_of_ble_eq_true rfl, Nat.le_of_ble_eq_true rfl⟩ ⟨Nat.zero_le _, Nat.zero_le _⟩ dX11_sentence_43 (fun H locs hP hD hS => ?_)
  refine lv_iconst (v := 1) X.hx X.hb dX11_sentence_46 (by decide) ?_
  refine lv_istore_n (lv' := [(1, .int 1), (0, .ref (uY 0))]) X.hx X.hb dX11_sentence_47 rfl hl (by decide) rfl (fun ls hl => ?_)
  obtain ⟨K_6, eK_8, hf⟩ := jn_i hf
  have hj_7 : ∀ (iY_9 : Nat → Int32) (sY_10 : Nat → Nat → Int32) (jY_11 : Nat → Int64) (H : Heap) (locs : List Loc) (ls : Array Slot), K_6 (iY_9, sY_10, jY_11) = some (r, iY', sY', jY') → va_P G.1 vwCl (gY G uY iY_9 sY_10 tY jY_11) H → va_D A (gY G uY iY_9 sY_10 tY jY_11) → va_S A s.heap H locs → lv_has ls 3 [(0, .ref (uY 0))] → W p l e (RM 4) s m args below meth c H locs 0 0 QQ (F0 m 132 ls []) := by
    intro iY_9 sY_10 jY_11 H locs ls hf hP hD hS hl
    rw [eK_8] at hf
    try dsimp only at hf
    refine lv_aload_n X.hx X.hb dX11_sentence_132 rfl (lv_at hl 0 rfl) ?_
    refine gf_X11_33 X hP 0 rfl (v := .ref (uY 7)) rfl dX11_sentence_133 ?_
    refine lv_sipush (v := 276) X.hx X.hb dX11_sentence_136 (by decide) ?_
    refine lv_aload_n X.hx X.hb dX11_sentence_139 rfl (lv_at hl 0 rfl) ?_
    refine gf_X11_431 X hP 0 rfl (v := .int (iY_9 43)) rfl dX11_sentence_140 ?_
    obtain ⟨g_12, eg_12, hf⟩ := nv_i hf
    refine r_iast X hP hD hS 2 (f := (sY_10 6)) rfl (vp_c rfl) (wo := (gY G uY iY_9 (va_up sY_10 6 g_12) tY jY_11)) (by subst eg_12; rfl) dX11_sentence_143 (fun H locs hP hD hS => ?_)
    refine lv_iconst (v := 0) X.hx X.hb dX11_sentence_144 (by decide) ?_
    refine lv_istore_n (lv' := [(2, .int 0), (0, .ref (uY 0))]) X.hx X.hb dX11_sentence_145 rfl hl (by decide) rfl (fun ls hl => ?_)
    have hlo_13 : ∀ (k : Nat) (sY_14 : Nat → Nat → Int32) (v2_15 : Int32) (H : Heap) (locs : List Loc) (ls : Array Slot), f_X11_sentence_146 N iY_9 tY jY_11 k sY_14 v2_15 = some (r, iY', sY', jY') → va_P G.1 vwCl (gY G uY iY_9 sY_14 tY jY_11) H → va_D A (gY G uY iY_9 sY_14 tY jY_11) → va_S A s.heap H locs → lv_has ls 3 [(0, .ref (uY 0)), (2, .int v2_15)] → W p l e (RM 4) s m args below meth c H locs 0 0 QQ (F0 m 146 ls []) := by
      intro k
      induction k with
      | zero => intro sY_14 v2_15 H locs ls hf; exact absurd hf (by intro q; cases q)
      | succ k ih =>
        intro sY_14 v2_15 H locs ls hf hP hD hS hl
        unfold f_X11_sentence_146 at hf
        refine lv_iload_n X.hx X.hb dX11_sentence_146 rfl (lv_at hl 1 rfl) ?_
        refine lv_iconst (v := 3) X.hx X.hb dX11_sentence_147 (by decide) ?_
        refine lv_aload_n X.hx X.hb dX11_sentence_148 rfl (lv_at hl 0 rfl) ?_
        refine gf_X11_431 X hP 0 rfl (v := .int (iY_9 43)) rfl dX11_sentence_149 ?_
        refine lv_imul X.hx X.hb dX11_sentence_152 ?_
        refine lv_icmp_ge (tgt := 178) X.hx X.hb dX11_sentence_153 (by decide) (fun hc_16 => ?_) (fun hc_16 => ?_)
        · replace hf := if_t hf hc_16
          refine lv_aload_n X.hx X.hb dX11_sentence_178 rfl (lv_at hl 0 rfl) ?_
          refine gf_X11_446 X hP 0 rfl (v := .int (iY_9 44)) rfl dX11_sentence_179 ?_
          cases hf
          subst hQ
          exact r_iret X hP hD hS dX11_sentence_182
        · replace hf := if_f hf hc_16
          refine lv_aload_n X.hx X.hb dX11_sentence_156 rfl (lv_at hl 0 rfl) ?_
          refine gf_X11_33 X hP 0 rfl (v := .ref (uY 7)) rfl dX11_sentence_157 ?_
          refine lv_sipush (v := 277) X.hx X.hb dX11_sentence_160 (by decide) ?_
          refine lv_iload_n X.hx X.hb dX11_sentence_163 rfl (lv_at hl 1 rfl) ?_
          refine lv_iadd X.hx X.hb dX11_sentence_164 ?_
          refine lv_aload_n X.hx X.hb dX11_sentence_165 rfl (lv_at hl 0 rfl) ?_
          refine gf_X11_40 X hP 0 rfl (v := .ref (uY 9)) rfl dX11_sentence_166 ?_
          refine lv_iload_n X.hx X.hb dX11_sentence_169 rfl (lv_at hl 1 rfl) ?_
          obtain ⟨hi_17, hf⟩ := ck_i hf
          refine r_iald X hP 4 (f := (sY_14 8)) rfl hi_17 dX11_sentence_170 ?_
          obtain ⟨hi_18, hf⟩ := ck_i hf
          obtain ⟨g_19, eg_19, hf⟩ := nv_i hf
          refine r_iast X hP hD hS 2 (f := (sY_14 6)) rfl hi_18 (wo := (gY G uY iY_9 (va_up sY_14 6 g_19) tY jY_11)) (by subst eg_19; rfl) dX11_sentence_171 (fun H locs hP hD hS => ?_)
          refine lv_iinc (v := (v2_15 + 1)) (lv' := [(2, .int (v2_15 + 1)), (0, .ref (uY 0))]) X.hx X.hb dX11_sentence_172 hl (k := 1) rfl rfl (by decide) rfl (fun ls hl => ?_)
          refine lv_goto (tgt := 146) X.hx X.hb dX11_sentence_175 (by decide) ?_
          exact ih _ _ _ _ _ hf hP hD hS (lv_sub hl [1, 0] rfl)
    exact hlo_13 N _ _ _ _ _ hf hP hD hS (lv_sub hl [1, 0] rfl)
  obtain ⟨K_24, eK_26, hf⟩ := jn_i hf
  have hj_25 : ∀ (iY_27 : Nat → Int32) (sY_28 : Nat → Nat → Int32) (jY_29 : Nat → Int64) (H : Heap) (locs : List Loc) (ls : Array Slot), K_24 (iY_27, sY_28, jY_29) = some (r, iY', sY', jY') → va_P G.1 vwCl (gY G uY iY_27 sY_28 tY jY_29) H → va_D A (gY G uY iY_27 sY_28 tY jY_29) → va_S A s.heap H locs → lv_has ls 3 [(0, .ref (uY 0))] → W p l e (RM 4) s m args below meth c H locs 0 0 QQ (F0 m 125 ls []) := by
    intro iY_27 sY_28 jY_29 H locs ls hf hP hD hS hl
    rw [eK_26] at hf
    try dsimp only at hf
    refine lv_iconst (v := (-1)) X.hx X.hb dX11_sentence_125 (by decide) ?_
    refine lv_aload_n X.hx X.hb dX11_sentence_126 rfl (lv_at hl 0 rfl) ?_
    refine gf_X11_177 X hP 0 rfl (v := .int (iY_27 16)) rfl dX11_sentence_127 ?_
    refine lv_isub X.hx X.hb dX11_sentence_130 ?_
    obtain ⟨rfl, he_0⟩ := Prod.mk.inj (Option.some.inj hf)
    obtain ⟨rfl, he_1⟩ := Prod.mk.inj he_0
    obtain ⟨rfl, he_2⟩ := Prod.mk.inj he_1
    subst he_2
    subst hQ
    exact r_iret X hP hD hS dX11_sentence_131
  obtain ⟨K_30, eK_32, hf⟩ := jn_i hf
  have hj_31 : ∀ (iY_33 : Nat → Int32) (sY_34 : Nat → Nat → Int32) (jY_35 : Nat → Int64) (H : Heap) (locs : List Loc) (ls : Array Slot), K_30 (iY_33, sY_34, jY_35) = some (r, iY', sY', jY') → va_P G.1 vwCl (gY G uY iY_33 sY_34 tY jY_35) H → va_D A (gY G uY iY_33 sY_34 tY jY_35) → va_S A s.heap H locs → lv_has ls 3 [(0, .ref (uY 0))] → W p l e (RM 4) s m args below meth c H locs 0 0 QQ (F0 m 115 ls []) := by
    intro iY_33 sY_34 jY_35 H locs ls hf hP hD hS hl
    rw [eK_32] at hf
    try dsimp only at hf
    refine lv_goto (tgt := 125) X.hx X.hb dX11_sentence_115 (by decide) ?_
    exact hj_25 _ _ _ _ _ _ hf hP hD hS (lv_sub hl [0] rfl)
  obtain ⟨K_36, eK_38, hf⟩ := jn_i hf
  have hj_37 : ∀ (iY_39 : Nat → Int32) (sY_40 : Nat → Nat → Int32) (jY_41 : Nat → Int64) (H : Heap) (locs : List Loc) (ls : Array Slot), K_36 (iY_39, sY_40, jY_41) = some (r, iY', sY', jY') → va_P G.1 vwCl (gY G uY iY_39 sY_40 tY jY_41) H → va_D A (gY G uY iY_39 sY_40 tY jY_41) → va_S A s.heap H locs → lv_has ls 3 [(0, .ref (uY 0))] → W p l e (RM 4) s m args below meth c H locs 0 0 QQ (F0 m 83 ls []) := by
    intro iY_39 sY_40 jY_41 H locs ls hf hP hD hS hl
    rw [eK_38] at hf
    try dsimp only at hf
    refine lv_aload_n X.hx X.hb dX11_sentence_83 rfl (lv_at hl 0 rfl) ?_
    refine lv_iconst (v := 1) X.hx X.hb dX11_sentence_84 (by decide) ?_
    obtain ⟨⟨r_42, iY_43⟩, hc_44, hf⟩ := bd_i hf
    refine r_wvi (As := [.int 1]) (rest := []) X sm_X11_183 (c_X11_bad l G N uY iY_39 sY_40 tY jY_41 1 hc_44) hP hD hS hA 0 rfl rfl rfl hl.1 (lv_room (Nat.le_of_ble_eq_true rfl)) ⟨Nat.le_of_ble_eq_true rfl, Nat.le_of_ble_eq_true rfl⟩ ⟨Nat.zero_le _, Nat.zero_le _⟩ dX11_sentence_85 (fun H locs hP hD hS => ?_)
    refine lv_pop X.hx X.hb dX11_sentence_88 rfl ?_
    refine lv_iconst (v := (-1)) X.hx X.hb dX11_sentence_89 (by decide) ?_
    refine lv_aload_n X.hx X.hb dX11_sentence_90 rfl (lv_at hl 0 rfl) ?_
    refine gf_X11_177 X hP 0 rfl (v := .int (iY_43 16)) rfl dX11_sentence_91 ?_
    refine lv_isub X.hx X.hb dX11_sentence_94 ?_
    obtain ⟨rfl, he_0⟩ := Prod.mk.inj (Option.some.inj hf)
    obtain ⟨rfl, he_1⟩ := Prod.mk.inj he_0
    obtain ⟨rfl, he_2⟩ := Prod.mk.inj he_1
    subst he_2
    subst hQ
    exact r_iret X hP hD hS dX11_sentence_95
  have hlo_45 : ∀ (k : Nat) (iY_46 : Nat → Int32) (sY_47 : Nat → Nat → Int32) (jY_48 : Nat → Int64) (v1_49 : Int32) (H : Heap) (locs : List Loc) (ls : Array Slot), f_X11_sentence_48 N tY K_36 K_30 K_24 K_6 k iY_46 sY_47 jY_48 v1_49 = some (r, iY', sY', jY') → va_P G.1 vwCl (gY G uY iY_46 sY_47 tY jY_48) H → va_D A (gY G uY iY_46 sY_47 tY jY_48) → va_S A s.heap H locs → lv_has ls 3 [(0, .ref (uY 0)), (1, .int v1_49)] → W p l e (RM 4) s m args below meth c H locs 0 0 QQ (F0 m 48 ls []) := by
    intro k
    induction k with
    | zero => intro iY_46 sY_47 jY_48 v1_49 H locs ls hf; exact absurd hf (by intro q; cases q)
    | succ k ih =>
      intro iY_46 sY_47 jY_48 v1_49 H locs ls hf hP hD hS hl
      unfold f_X11_sentence_48 at hf
      refine lv_iload_n X.hx X.hb dX11_sentence_48 rfl (lv_at hl 1 rfl) ?_
      refine lv_if_eq (tgt := 132) X.hx X.hb dX11_sentence_49 (by decide) (fun hc_50 => ?_) (fun hc_50 => ?_)
      · replace hf := if_t hf hc_50
        exact hj_7 _ _ _ _ _ _ hf hP hD hS (lv_sub hl [0] rfl)
      · replace hf := if_f hf hc_50
        refine lv_aload_n X.hx X.hb dX11_sentence_52 rfl (lv_at hl 0 rfl) ?_
        refine gf_X11_449 X hP 0 rfl (v := .int (iY_46 47)) rfl dX11_sentence_53 ?_
        obtain ⟨K_51, eK_53, hf⟩ := jn_i hf
        have hj_52 : ∀ (H : Heap) (locs : List Loc) (ls : Array Slot), K_51 () = some (r, iY', sY', jY') → va_P G.1 vwCl (gY G uY iY_46 sY_47 tY jY_48) H → va_D A (gY G uY iY_46 sY_47 tY jY_48) → va_S A s.heap H locs → lv_has ls 3 [(0, .ref (uY 0)), (1, .int v1_49)] → W p l e (RM 4) s m args below meth c H locs 0 0 QQ (F0 m 101 ls []) := by
          intro  H locs ls hf hP hD hS hl
          rw [eK_53] at hf
          try dsimp only at hf
          refine lv_aload_n X.hx X.hb dX11_sentence_101 rfl (lv_at hl 0 rfl) ?_
          refine gf_X11_449 X hP 0 rfl (v := .int (iY_46 47)) rfl dX11_sentence_102 ?_
          refine lv_if_eq (tgt := 118) X.hx X.hb dX11_sentence_105 (by decide) (fun hc_54 => ?_) (fun hc_54 => ?_)
          · replace hf := if_t hf hc_54
            refine lv_aload_n X.hx X.hb dX11_sentence_118 rfl (lv_at hl 0 rfl) ?_
            obtain ⟨⟨r_55, iY_56, sY_57, jY_58⟩, hc_59, hf⟩ := bd_i hf
            refine r_wvi (As := []) (rest := []) X sm_X11_461 (c_X11_operand l G N uY iY_46 sY_47 tY jY_48 hc_59) hP hD hS hA 0 rfl rfl rfl hl.1 (lv_room (Nat.le_of_ble_eq_true rfl)) ⟨Nat.le_of_ble_eq_true rfl, Nat.le_of_ble_eq_true rfl⟩ ⟨Nat.zero_le _, Nat.zero_le _⟩ dX11_sentence_119 (fun H locs hP hD hS => ?_)
            refine lv_if_ne (tgt := 48) X.hx X.hb dX11_sentence_122 (by decide) (fun hc_60 => ?_) (fun hc_60 => ?_)
            · replace hf := if_f hf hc_60
              exact ih _ _ _ _ _ _ _ hf hP hD hS (lv_sub hl [0, 1] rfl)
            · replace hf := if_t hf hc_60
              exact hj_25 _ _ _ _ _ _ hf hP hD hS (lv_sub hl [0] rfl)
          · replace hf := if_f hf hc_54
            refine lv_aload_n X.hx X.hb dX11_sentence_108 rfl (lv_at hl 0 rfl) ?_
            obtain ⟨⟨r_61, iY_62, sY_63, jY_64⟩, hc_65, hf⟩ := bd_i hf
            refine r_wvi (As := []) (rest := []) X sm_X11_458 (c_X11_behind l G N uY iY_46 sY_47 tY jY_48 hc_65) hP hD hS hA 0 rfl rfl rfl hl.1 (lv_room (Nat.le_of_ble_eq_true rfl)) ⟨Nat.le_of_ble_eq_true rfl, Nat.le_of_ble_eq_true rfl⟩ ⟨Nat.zero_le _, Nat.zero_le _⟩ dX11_sentence_109 (fun H locs hP hD hS => ?_)
            refine lv_if_ne (tgt := 48) X.hx X.hb dX11_sentence_112 (by decide) (fun hc_66 => ?_) (fun hc_66 => ?_)
            · replace hf := if_f hf hc_66
              exact ih _ _ _ _ _ _ _ hf hP hD hS (lv_sub hl [0, 1] rfl)
            · replace hf := if_t hf hc_66
              exact hj_31 _ _ _ _ _ _ hf hP hD hS (lv_sub hl [0] rfl)
        refine lv_if_eq (tgt := 101) X.hx X.hb dX11_sentence_56 (by decide) (fun hc_67 => ?_) (fun hc_67 => ?_)
        · replace hf := if_t hf hc_67
          exact hj_52 _ _ _ hf hP hD hS (lv_sub hl [0, 1] rfl)
        · replace hf := if_f hf hc_67
          refine lv_aload_n X.hx X.hb dX11_sentence_59 rfl (lv_at hl 0 rfl) ?_
          refine gf_X11_157 X hP 0 rfl (v := .int (iY_46 11)) rfl dX11_sentence_60 ?_
          refine lv_if_ne (tgt := 101) X.hx X.hb dX11_sentence_63 (by decide) (fun hc_68 => ?_) (fun hc_68 => ?_)
          · replace hf := if_f hf hc_68
            exact hj_52 _ _ _ hf hP hD hS (lv_sub hl [0, 1] rfl)
          · replace hf := if_t hf hc_68
            refine lv_aload_n X.hx X.hb dX11_sentence_66 rfl (lv_at hl 0 rfl) ?_
            obtain ⟨⟨iY_69, sY_70⟩, hc_71, hf⟩ := bd_i hf
            refine r_wvv (As := []) (rest := []) X sm_X11_452 (c_X11_nots l G N uY iY_46 sY_47 tY jY_48 hc_71) hP hD hS hA 0 rfl rfl rfl hl.1 (lv_room (Nat.le_of_ble_eq_true rfl)) ⟨Nat.le_of_ble_eq_true rfl, Nat.le_of_ble_eq_true rfl⟩ ⟨Nat.zero_le _, Nat.zero_le _⟩ dX11_sentence_67 (fun H locs hP hD hS => ?_)
            refine lv_aload_n X.hx X.hb dX11_sentence_70 rfl (lv_at hl 0 rfl) ?_
            refine lv_bipush (v := 22) X.hx X.hb dX11_sentence_71 (by decide) ?_
            obtain ⟨⟨iY_72, sY_73⟩, hc_74, hf⟩ := bd_i hf
            refine r_wvv (As := [.int 22]) (rest := []) X sm_X11_455 (c_X11_joins l G N uY iY_69 sY_70 tY jY_48 22 hc_74) hP hD hS hA 0 rfl rfl rfl hl.1 (lv_room (Nat.le_of_ble_eq_true rfl)) ⟨Nat.le_of_ble_eq_true rfl, Nat.le_of_ble_eq_true rfl⟩ ⟨Nat.zero_le _, Nat.zero_le _⟩ dX11_sentence_73 (fun H locs hP hD hS => ?_)
            refine lv_aload_n X.hx X.hb dX11_sentence_76 rfl (lv_at hl 0 rfl) ?_
            refine gf_X11_434 X hP 0 rfl (v := .int (iY_72 45)) rfl dX11_sentence_77 ?_
            refine lv_if_le (tgt := 96) X.hx X.hb dX11_sentence_80 (by decide) (fun hc_75 => ?_) (fun hc_75 => ?_)
            · replace hf := if_t hf hc_75
              refine lv_iconst (v := 0) X.hx X.hb dX11_sentence_96 (by decide) ?_
              refine lv_istore_n (lv' := [(1, .int 0), (0, .ref (uY 0))]) X.hx X.hb dX11_sentence_97 rfl hl (by decide) rfl (fun ls hl => ?_)
              refine lv_goto (tgt := 48) X.hx X.hb dX11_sentence_98 (by decide) ?_
              exact ih _ _ _ _ _ _ _ hf hP hD hS (lv_sub hl [1, 0] rfl)
            · replace hf := if_f hf hc_75
              exact hj_37 _ _ _ _ _ _ hf hP hD hS (lv_sub hl [0] rfl)
  exact hlo_45 N _ _ _ _ _ _ _ hf hP hD hS (lv_sub hl [1, 0] rfl)

def f_X11_isSold_7 (N : Nat) (iY : Nat → Int32) (sY : Nat → Nat → Int32) (tY : Nat → Nat → Int64) (jY : Nat → Int64) (v1 : Int32) (K_1 : ((Int32) × (Int32)) → Option (Int32)) : Nat → (Int32) → (Int32) → (Int32) → Option (Int32)
  | 0, _, _, _ => none
  | k + 1, v2, v3, v4 => (if ((sY 6) 1) ≤ v4 then K_1 (v2, v3) else jn (fun (z : (Int32)) => match z with | y_29 => ck (((143 : Int32) + ((5 : Int32) * v1)) + v4) 457 (nv (v3 + ((sY 6) (ix (((143 : Int32) + ((5 : Int32) * v1)) + v4)))) (fun n_31 => f_X11_isSold_7 N iY sY tY jY v1 K_1 k y_29 n_31 (v4 + 1)))) (fun K_26 => jn (fun (z : Unit) => match z with | () => K_26 1) (fun K_32 => (if v2 = 0 then ck (((47 : Int32) + ((5 : Int32) * v1)) + v4) 457 ((if ((sY 6) (ix (((47 : Int32) + ((5 : Int32) * v1)) + v4))) ≤ 0 then K_26 0 else K_32 ())) else K_32 ()))))
def f_X11_isSold (N : Nat) (iY : Nat → Int32) (sY : Nat → Nat → Int32) (tY : Nat → Nat → Int64) (jY : Nat → Int64) (p1 : Int32) : Option (Int32) :=
  jn (fun (z : (Int32) × (Int32)) => match z with | (x2_4, x3_5) => (if x2_4 = 0 then some 0 else (if x3_5 = 0 then some 1 else some 0))) (fun K_1 => f_X11_isSold_7 N iY sY tY jY p1 K_1 N 0 0 0)
set_option maxHeartbeats 4000000 in
set_option maxRecDepth 100000 in
theorem c_X11_isSold (l : Launch) (G : GT) (N : Nat) (uY : Nat → Nat) (iY : Nat → Int32) (sY : Nat → Nat → Int32) (tY : Nat → Nat → Int64) (jY : Nat → Int64) (p1 : Int32) {r : Int32} (hf : f_X11_isSold N iY sY tY jY p1 = some r) : CI l G yX11_isSold cX11_isSold 5 .boolean 1 [.ref (uY 0), .int p1] (gY G uY iY sY tY jY) r (gY G uY iY sY tY jY) := by
  refine CI.of (by decide) (Nat.le_of_ble_eq_true rfl) ?_
  intro p e s m args below meth c A X hA hP hD hS ls hl
  have hl : lv_has ls 5 [(0, .ref (uY 0)), (1, .int p1)] := hl
  generalize hQ : MQ below (QI G A r (gY G uY iY sY tY jY)) args s 0 0 A = QQ
  unfold f_X11_isSold at hf
  refine lv_iconst (v := 0) X.hx X.hb dX11_isSold_0 (by decide) ?_
  refine lv_istore_n (lv' := [(2, .int 0), (0, .ref (uY 0)), (1, .int p1)]) X.hx X.hb dX11_isSold_1 rfl hl (by decide) rfl (fun ls hl => ?_)
  refine lv_iconst (v := 0) X.hx X.hb dX11_isSold_2 (by decide) ?_
  refine lv_istore_n (lv' := [(3, .int 0), (2, .int 0), (0, .ref (uY 0)), (1, .int p1)]) X.hx X.hb dX11_isSold_3 rfl hl (by decide) rfl (fun ls hl => ?_)
  refine lv_iconst (v := 0) X.hx X.hb dX11_isSold_4 (by decide) ?_
  refine lv_istore (lv' := [(4, .int 0), (3, .int 0), (2, .int 0), (0, .ref (uY 0)), (1, .int p1)]) X.hx X.hb dX11_isSold_5 hl (by decide) rfl (fun ls hl => ?_)
  obtain ⟨K_1, eK_3, hf⟩ := jn_i hf
  have hj_2 : ∀ (x2_4 : Int32) (x3_5 : Int32) (H : Heap) (locs : List Loc) (ls : Array Slot), K_1 (x2_4, x3_5) = some r → va_P G.1 vwCl (gY G uY iY sY tY jY) H → va_D A (gY G uY iY sY tY jY) → va_S A s.heap H locs → lv_has ls 5 [(2, .int x2_4), (3, .int x3_5)] → W p l e (RM 1) s m args below meth c H locs 0 0 QQ (F0 m 69 ls []) := by
    intro x2_4 x3_5 H locs ls hf hP hD hS hl
    rw [eK_3] at hf
    try dsimp only at hf
    refine lv_iload_n X.hx X.hb dX11_isSold_69 rfl (lv_at hl 0 rfl) ?_
    refine lv_if_eq (tgt := 81) X.hx X.hb dX11_isSold_70 (by decide) (fun hc_6 => ?_) (fun hc_6 => ?_)
    · replace hf := if_t hf hc_6
      refine lv_iconst (v := 0) X.hx X.hb dX11_isSold_81 (by decide) ?_
      cases hf
      subst hQ
      exact r_zret X hP hD hS (by decide) dX11_isSold_82
    · replace hf := if_f hf hc_6
      refine lv_iload_n X.hx X.hb dX11_isSold_73 rfl (lv_at hl 1 rfl) ?_
      refine lv_if_ne (tgt := 81) X.hx X.hb dX11_isSold_74 (by decide) (fun hc_7 => ?_) (fun hc_7 => ?_)
      · replace hf := if_f hf hc_7
        refine lv_iconst (v := 0) X.hx X.hb dX11_isSold_81 (by decide) ?_
        cases hf
        subst hQ
        exact r_zret X hP hD hS (by decide) dX11_isSold_82
      · replace hf := if_t hf hc_7
        refine lv_iconst (v := 1) X.hx X.hb dX11_isSold_77 (by decide) ?_
        refine lv_goto (tgt := 82) X.hx X.hb dX11_isSold_78 (by decide) ?_
        cases hf
        subst hQ
        exact r_zret X hP hD hS (by decide) dX11_isSold_82
  have hlo_8 : ∀ (k : Nat) (v2_9 : Int32) (v3_10 : Int32) (v4_11 : Int32) (H : Heap) (locs : List Loc) (ls : Array Slot), f_X11_isSold_7 N iY sY tY jY p1 K_1 k v2_9 v3_10 v4_11 = some r → va_P G.1 vwCl (gY G uY iY sY tY jY) H → va_D A (gY G uY iY sY tY jY) → va_S A s.heap H locs → lv_has ls 5 [(0, .ref (uY 0)), (1, .int p1), (2, .int v2_9), (3, .int v3_10), (4, .int v4_11)] → W p l e (RM 1) s m args below meth c H locs 0 0 QQ (F0 m 7 ls []) := by
    intro k
    induction k with
    | zero => intro v2_9 v3_10 v4_11 H locs ls hf; exact absurd hf (by intro q; cases q)
    | succ k ih =>
      intro v2_9 v3_10 v4_11 H locs ls hf hP hD hS hl
      unfold f_X11_isSold_7 at hf
      refine lv_iload X.hx X.hb dX11_isSold_7 (lv_at hl 4 rfl) ?_
      refine lv_aload_n X.hx X.hb dX11_isSold_9 rfl (lv_at hl 0 rfl) ?_
      refine gf_X11_33 X hP 0 rfl (v := .ref (uY 7)) rfl dX11_isSold_10 ?_
      refine lv_iconst (v := 1) X.hx X.hb dX11_isSold_13 (by decide) ?_
      refine r_iald X hP 2 (f := (sY 6)) rfl (vp_c rfl) dX11_isSold_14 ?_
      refine W.eq (g2 := F0 m 15 ls [.int ((sY 6) 1), .int v4_11]) rfl ?_
      refine lv_icmp_ge (tgt := 69) X.hx X.hb dX11_isSold_15 (by decide) (fun hc_12 => ?_) (fun hc_12 => ?_)
      · replace hf := if_t hf hc_12
        exact hj_2 _ _ _ _ _ hf hP hD hS (lv_sub hl [2, 3] rfl)
      · replace hf := if_f hf hc_12
        refine lv_iload_n X.hx X.hb dX11_isSold_18 rfl (lv_at hl 2 rfl) ?_
        obtain ⟨K_13, eK_15, hf⟩ := jn_i hf
        have hj_14 : ∀ (y_16 : Int32) (H : Heap) (locs : List Loc) (ls : Array Slot), K_13 y_16 = some r → va_P G.1 vwCl (gY G uY iY sY tY jY) H → va_D A (gY G uY iY sY tY jY) → va_S A s.heap H locs → lv_has ls 5 [(0, .ref (uY 0)), (1, .int p1), (3, .int v3_10), (4, .int v4_11)] → W p l e (RM 1) s m args below meth c H locs 0 0 QQ (F0 m 44 ls [.int y_16]) := by
          intro y_16 H locs ls hf hP hD hS hl
          rw [eK_15] at hf
          try dsimp only at hf
          refine lv_istore_n (lv' := [(2, .int y_16), (0, .ref (uY 0)), (1, .int p1), (3, .int v3_10), (4, .int v4_11)]) X.hx X.hb dX11_isSold_44 rfl hl (by decide) rfl (fun ls hl => ?_)
          refine lv_iload_n X.hx X.hb dX11_isSold_45 rfl (lv_at hl 3 rfl) ?_
          refine lv_aload_n X.hx X.hb dX11_isSold_46 rfl (lv_at hl 1 rfl) ?_
          refine gf_X11_33 X hP 0 rfl (v := .ref (uY 7)) rfl dX11_isSold_47 ?_
          refine lv_sipush (v := 143) X.hx X.hb dX11_isSold_50 (by decide) ?_
          refine lv_iconst (v := 5) X.hx X.hb dX11_isSold_53 (by decide) ?_
          refine lv_iload_n X.hx X.hb dX11_isSold_54 rfl (lv_at hl 2 rfl) ?_
          refine lv_imul X.hx X.hb dX11_isSold_55 ?_
          refine lv_iadd X.hx X.hb dX11_isSold_56 ?_
          refine lv_iload X.hx X.hb dX11_isSold_57 (lv_at hl 4 rfl) ?_
          refine lv_iadd X.hx X.hb dX11_isSold_59 ?_
          obtain ⟨hi_17, hf⟩ := ck_i hf
          refine r_iald X hP 2 (f := (sY 6)) rfl hi_17 dX11_isSold_60 ?_
          refine lv_iadd X.hx X.hb dX11_isSold_61 ?_
          obtain ⟨n_18, en_18, hf⟩ := nv_i hf
          refine r_nm en_18 ?_
          refine lv_istore_n (lv' := [(3, .int n_18), (2, .int y_16), (0, .ref (uY 0)), (1, .int p1), (4, .int v4_11)]) X.hx X.hb dX11_isSold_62 rfl hl (by decide) rfl (fun ls hl => ?_)
          refine lv_iinc (v := (v4_11 + 1)) (lv' := [(4, .int (v4_11 + 1)), (3, .int n_18), (2, .int y_16), (0, .ref (uY 0)), (1, .int p1)]) X.hx X.hb dX11_isSold_63 hl (k := 4) rfl rfl (by decide) rfl (fun ls hl => ?_)
          refine lv_goto (tgt := 7) X.hx X.hb dX11_isSold_66 (by decide) ?_
          exact ih _ _ _ _ _ _ hf hP hD hS (lv_sub hl [3, 4, 2, 1, 0] rfl)
        obtain ⟨K_19, eK_21, hf⟩ := jn_i hf
        have hj_20 : ∀ (H : Heap) (locs : List Loc) (ls : Array Slot), K_19 () = some r → va_P G.1 vwCl (gY G uY iY sY tY jY) H → va_D A (gY G uY iY sY tY jY) → va_S A s.heap H locs → lv_has ls 5 [(0, .ref (uY 0)), (1, .int p1), (3, .int v3_10), (4, .int v4_11)] → W p l e (RM 1) s m args below meth c H locs 0 0 QQ (F0 m 39 ls []) := by
          intro  H locs ls hf hP hD hS hl
          rw [eK_21] at hf
          try dsimp only at hf
          refine lv_iconst (v := 1) X.hx X.hb dX11_isSold_39 (by decide) ?_
          refine lv_goto (tgt := 44) X.hx X.hb dX11_isSold_40 (by decide) ?_
          exact hj_14 _ _ _ _ hf hP hD hS (lv_sub hl [0, 1, 2, 3] rfl)
        refine lv_if_ne (tgt := 39) X.hx X.hb dX11_isSold_19 (by decide) (fun hc_22 => ?_) (fun hc_22 => ?_)
        · replace hf := if_f hf hc_22
          exact hj_20 _ _ _ hf hP hD hS (lv_sub hl [0, 1, 3, 4] rfl)
        · replace hf := if_t hf hc_22
          refine lv_aload_n X.hx X.hb dX11_isSold_22 rfl (lv_at hl 0 rfl) ?_
          refine gf_X11_33 X hP 0 rfl (v := .ref (uY 7)) rfl dX11_isSold_23 ?_
          refine lv_bipush (v := 47) X.hx X.hb dX11_isSold_26 (by decide) ?_
          refine lv_iconst (v := 5) X.hx X.hb dX11_isSold_28 (by decide) ?_
          refine lv_iload_n X.hx X.hb dX11_isSold_29 rfl (lv_at hl 1 rfl) ?_
          refine lv_imul X.hx X.hb dX11_isSold_30 ?_
          refine lv_iadd X.hx X.hb dX11_isSold_31 ?_
          refine lv_iload X.hx X.hb dX11_isSold_32 (lv_at hl 4 rfl) ?_
          refine lv_iadd X.hx X.hb dX11_isSold_34 ?_
          obtain ⟨hi_23, hf⟩ := ck_i hf
          refine r_iald X hP 2 (f := (sY 6)) rfl hi_23 dX11_isSold_35 ?_
          refine lv_if_le (tgt := 43) X.hx X.hb dX11_isSold_36 (by decide) (fun hc_24 => ?_) (fun hc_24 => ?_)
          · replace hf := if_t hf hc_24
            refine lv_iconst (v := 0) X.hx X.hb dX11_isSold_43 (by decide) ?_
            exact hj_14 _ _ _ _ hf hP hD hS (lv_sub hl [0, 1, 3, 4] rfl)
          · replace hf := if_f hf hc_24
            exact hj_20 _ _ _ hf hP hD hS (lv_sub hl [0, 1, 3, 4] rfl)
  exact hlo_8 N _ _ _ _ _ _ hf hP hD hS (lv_sub hl [3, 4, 2, 1, 0] rfl)

def f_X11_isLeaf (N : Nat) (iY : Nat → Int32) (sY : Nat → Nat → Int32) (tY : Nat → Nat → Int64) (jY : Nat → Int64) (p1 : Int32) (p2 : Int32) (p3 : Int32) (p4 : Int32) : Option (Int32) :=
  (if p2 = 0 then bd (f_X11_isHome N iY sY tY jY p1) (fun r_2 => zb r_2 (some r_2)) else (if p2 = 1 then bd (f_X11_isVeiled N iY sY tY jY p1) (fun r_6 => zb r_6 (some r_6)) else (if p2 = 2 then bd (f_X11_wantsOf N iY sY tY jY p1) (fun r_10 => (if r_10 = 0 then some 1 else some 0)) else (if p2 = 3 then bd (f_X11_isSold N iY sY tY jY p1) (fun r_14 => zb r_14 (some r_14)) else (if p2 = 4 then bd (f_X11_knownBy N iY sY tY jY p1) (fun r_18 => bd (f_X11_bitOf N r_18 p4) (fun r_20 => zb r_20 (some r_20))) else (if p2 = 5 then ck (((178 : Int32) + ((5 : Int32) * p1)) + p4) 457 ((if ((sY 6) (ix (((178 : Int32) + ((5 : Int32) * p1)) + p4))) ≤ 0 then some 0 else some 1)) else jn (fun (z : (Int32)) => match z with | y_29 => (if p3 = 60 then (if p4 ≤ y_29 then some 0 else some 1) else (if p3 = 61 then (if y_29 = p4 then some 1 else some 0) else (if y_29 ≤ p4 then some 0 else some 1)))) (fun K_26 => (if p2 = 6 then ck ((136 : Int32) + p1) 457 (K_26 ((sY 6) (ix ((136 : Int32) + p1)))) else (if p2 = 7 then bd (f_X11_knownBy N iY sY tY jY p1) (fun r_39 => bd (f_X11_bits N r_39) (fun r_41 => K_26 r_41)) else (if p2 = 8 then ck ((213 : Int32) + p1) 457 (K_26 ((sY 6) (ix ((213 : Int32) + p1)))) else K_26 p1))))))))))
set_option maxHeartbeats 4000000 in
set_option maxRecDepth 100000 in
theorem c_X11_isLeaf (l : Launch) (G : GT) (N : Nat) (uY : Nat → Nat) (iY : Nat → Int32) (sY : Nat → Nat → Int32) (tY : Nat → Nat → Int64) (jY : Nat → Int64) (p1 : Int32) (p2 : Int32) (p3 : Int32) (p4 : Int32) {r : Int32} (hf : f_X11_isLeaf N iY sY tY jY p1 p2 p3 p4 = some r) : CI l G yX11_isLeaf cX11_isLeaf 6 .boolean 3 [.ref (uY 0), .int p1, .int p2, .int p3, .int p4] (gY G uY iY sY tY jY) r (gY G uY iY sY tY jY) := by
  refine CI.of (by decide) (Nat.le_of_ble_eq_true rfl) ?_
  intro p e s m args below meth c A X hA hP hD hS ls hl
  have hl : lv_has ls 6 [(0, .ref (uY 0)), (1, .int p1), (2, .int p2), (3, .int p3), (4, .int p4)] := hl
  generalize hQ : MQ below (QI G A r (gY G uY iY sY tY jY)) args s 0 0 A = QQ
  unfold f_X11_isLeaf at hf
  refine lv_iload_n X.hx X.hb dX11_isLeaf_0 rfl (lv_at hl 2 rfl) ?_
  by_cases hc_1 : p2 = 0
  · replace hf := if_t hf hc_1
    refine lv_tableIn (tgt := 40) X.hx X.hb dX11_isLeaf_1 (by rw [hc_1]; decide) (by rw [hc_1]; decide) (by rw [hc_1]; rfl) (by decide) ?_
    refine lv_aload_n X.hx X.hb dX11_isLeaf_40 rfl (lv_at hl 0 rfl) ?_
    refine lv_iload_n X.hx X.hb dX11_isLeaf_41 rfl (lv_at hl 1 rfl) ?_
    obtain ⟨r_2, hc_3, hf⟩ := bd_i hf
    refine r_wvi (As := [.int p1]) (rest := []) X sm_X11_290 (c_X11_isHome l G N uY iY sY tY jY p1 hc_3) hP hD hS hA 0 rfl rfl rfl hl.1 (lv_room (Nat.le_of_ble_eq_true rfl)) ⟨Nat.le_of_ble_eq_true rfl, Nat.le_of_ble_eq_true rfl⟩ ⟨Nat.zero_le _, Nat.zero_le _⟩ dX11_isLeaf_42 (fun H locs hP hD hS => ?_)
    obtain ⟨hb_4, hf⟩ := zb_i hf
    cases hf
    subst hQ
    exact r_zret X hP hD hS hb_4 dX11_isLeaf_45
  replace hf := if_f hf hc_1
  by_cases hc_5 : p2 = 1
  · replace hf := if_t hf hc_5
    refine lv_tableIn (tgt := 46) X.hx X.hb dX11_isLeaf_1 (by rw [hc_5]; decide) (by rw [hc_5]; decide) (by rw [hc_5]; rfl) (by decide) ?_
    refine lv_aload_n X.hx X.hb dX11_isLeaf_46 rfl (lv_at hl 0 rfl) ?_
    refine lv_iload_n X.hx X.hb dX11_isLeaf_47 rfl (lv_at hl 1 rfl) ?_
    obtain ⟨r_6, hc_7, hf⟩ := bd_i hf
    refine r_wvi (As := [.int p1]) (rest := []) X sm_X11_293 (c_X11_isVeiled l G N uY iY sY tY jY p1 hc_7) hP hD hS hA 0 rfl rfl rfl hl.1 (lv_room (Nat.le_of_ble_eq_true rfl)) ⟨Nat.le_of_ble_eq_true rfl, Nat.le_of_ble_eq_true rfl⟩ ⟨Nat.zero_le _, Nat.zero_le _⟩ dX11_isLeaf_48 (fun H locs hP hD hS => ?_)
    obtain ⟨hb_8, hf⟩ := zb_i hf
    cases hf
    subst hQ
    exact r_zret X hP hD hS hb_8 dX11_isLeaf_51
  replace hf := if_f hf hc_5
  by_cases hc_9 : p2 = 2
  · replace hf := if_t hf hc_9
    refine lv_tableIn (tgt := 52) X.hx X.hb dX11_isLeaf_1 (by rw [hc_9]; decide) (by rw [hc_9]; decide) (by rw [hc_9]; rfl) (by decide) ?_
    refine lv_aload_n X.hx X.hb dX11_isLeaf_52 rfl (lv_at hl 0 rfl) ?_
    refine lv_iload_n X.hx X.hb dX11_isLeaf_53 rfl (lv_at hl 1 rfl) ?_
    obtain ⟨r_10, hc_11, hf⟩ := bd_i hf
    refine r_wvi (As := [.int p1]) (rest := []) X sm_X11_269 (c_X11_wantsOf l G N uY iY sY tY jY p1 hc_11) hP hD hS hA 0 rfl rfl rfl hl.1 (lv_room (Nat.le_of_ble_eq_true rfl)) ⟨Nat.le_of_ble_eq_true rfl, Nat.le_of_ble_eq_true rfl⟩ ⟨Nat.zero_le _, Nat.zero_le _⟩ dX11_isLeaf_54 (fun H locs hP hD hS => ?_)
    refine lv_if_ne (tgt := 64) X.hx X.hb dX11_isLeaf_57 (by decide) (fun hc_12 => ?_) (fun hc_12 => ?_)
    · replace hf := if_f hf hc_12
      refine lv_iconst (v := 0) X.hx X.hb dX11_isLeaf_64 (by decide) ?_
      cases hf
      subst hQ
      exact r_zret X hP hD hS (by decide) dX11_isLeaf_65
    · replace hf := if_t hf hc_12
      refine lv_iconst (v := 1) X.hx X.hb dX11_isLeaf_60 (by decide) ?_
      refine lv_goto (tgt := 65) X.hx X.hb dX11_isLeaf_61 (by decide) ?_
      cases hf
      subst hQ
      exact r_zret X hP hD hS (by decide) dX11_isLeaf_65
  replace hf := if_f hf hc_9
  by_cases hc_13 : p2 = 3
  · replace hf := if_t hf hc_13
    refine lv_tableIn (tgt := 66) X.hx X.hb dX11_isLeaf_1 (by rw [hc_13]; decide) (by rw [hc_13]; decide) (by rw [hc_13]; rfl) (by decide) ?_
    refine lv_aload_n X.hx X.hb dX11_isLeaf_66 rfl (lv_at hl 0 rfl) ?_
    refine lv_iload_n X.hx X.hb dX11_isLeaf_67 rfl (lv_at hl 1 rfl) ?_
    obtain ⟨r_14, hc_15, hf⟩ := bd_i hf
    refine r_wvi (As := [.int p1]) (rest := []) X sm_X11_464 (c_X11_isSold l G N uY iY sY tY jY p1 hc_15) hP hD hS hA 0 rfl rfl rfl hl.1 (lv_room (Nat.le_of_ble_eq_true rfl)) ⟨Nat.le_of_ble_eq_true rfl, Nat.le_of_ble_eq_true rfl⟩ ⟨Nat.zero_le _, Nat.zero_le _⟩ dX11_isLeaf_68 (fun H locs hP hD hS => ?_)
    obtain ⟨hb_16, hf⟩ := zb_i hf
    cases hf
    subst hQ
    exact r_zret X hP hD hS hb_16 dX11_isLeaf_71
  replace hf := if_f hf hc_13
  by_cases hc_17 : p2 = 4
  · replace hf := if_t hf hc_17
    refine lv_tableIn (tgt := 72) X.hx X.hb dX11_isLeaf_1 (by rw [hc_17]; decide) (by rw [hc_17]; decide) (by rw [hc_17]; rfl) (by decide) ?_
    refine lv_aload_n X.hx X.hb dX11_isLeaf_72 rfl (lv_at hl 0 rfl) ?_
    refine lv_iload_n X.hx X.hb dX11_isLeaf_73 rfl (lv_at hl 1 rfl) ?_
    obtain ⟨r_18, hc_19, hf⟩ := bd_i hf
    refine r_wvi (As := [.int p1]) (rest := []) X sm_X11_265 (c_X11_knownBy l G N uY iY sY tY jY p1 hc_19) hP hD hS hA 0 rfl rfl rfl hl.1 (lv_room (Nat.le_of_ble_eq_true rfl)) ⟨Nat.le_of_ble_eq_true rfl, Nat.le_of_ble_eq_true rfl⟩ ⟨Nat.zero_le _, Nat.zero_le _⟩ dX11_isLeaf_74 (fun H locs hP hD hS => ?_)
    refine lv_iload X.hx X.hb dX11_isLeaf_77 (lv_at hl 4 rfl) ?_
    obtain ⟨r_20, hc_21, hf⟩ := bd_i hf
    refine r_cs0 (As := [.int r_18, .int p4]) (rest := []) X sm_X11_214 (c_X11_bitOf l G N r_18 p4 hc_21) hP hD hS hA rfl hl.1 (lv_room (Nat.le_of_ble_eq_true rfl)) ⟨Nat.le_of_ble_eq_true rfl, Nat.le_of_ble_eq_true rfl⟩ ⟨Nat.zero_le _, Nat.zero_le _⟩ dX11_isLeaf_79 (fun H locs hP hD hS => ?_)
    obtain ⟨hb_22, hf⟩ := zb_i hf
    cases hf
    subst hQ
    exact r_zret X hP hD hS hb_22 dX11_isLeaf_82
  replace hf := if_f hf hc_17
  by_cases hc_23 : p2 = 5
  · replace hf := if_t hf hc_23
    refine lv_tableIn (tgt := 83) X.hx X.hb dX11_isLeaf_1 (by rw [hc_23]; decide) (by rw [hc_23]; decide) (by rw [hc_23]; rfl) (by decide) ?_
    refine lv_aload_n X.hx X.hb dX11_isLeaf_83 rfl (lv_at hl 0 rfl) ?_
    refine gf_X11_33 X hP 0 rfl (v := .ref (uY 7)) rfl dX11_isLeaf_84 ?_
    refine lv_sipush (v := 178) X.hx X.hb dX11_isLeaf_87 (by decide) ?_
    refine lv_iconst (v := 5) X.hx X.hb dX11_isLeaf_90 (by decide) ?_
    refine lv_iload_n X.hx X.hb dX11_isLeaf_91 rfl (lv_at hl 1 rfl) ?_
    refine lv_imul X.hx X.hb dX11_isLeaf_92 ?_
    refine lv_iadd X.hx X.hb dX11_isLeaf_93 ?_
    refine lv_iload X.hx X.hb dX11_isLeaf_94 (lv_at hl 4 rfl) ?_
    refine lv_iadd X.hx X.hb dX11_isLeaf_96 ?_
    obtain ⟨hi_24, hf⟩ := ck_i hf
    refine r_iald X hP 2 (f := (sY 6)) rfl hi_24 dX11_isLeaf_97 ?_
    refine lv_if_le (tgt := 105) X.hx X.hb dX11_isLeaf_98 (by decide) (fun hc_25 => ?_) (fun hc_25 => ?_)
    · replace hf := if_t hf hc_25
      refine lv_iconst (v := 0) X.hx X.hb dX11_isLeaf_105 (by decide) ?_
      cases hf
      subst hQ
      exact r_zret X hP hD hS (by decide) dX11_isLeaf_106
    · replace hf := if_f hf hc_25
      refine lv_iconst (v := 1) X.hx X.hb dX11_isLeaf_101 (by decide) ?_
      refine lv_goto (tgt := 106) X.hx X.hb dX11_isLeaf_102 (by decide) ?_
      cases hf
      subst hQ
      exact r_zret X hP hD hS (by decide) dX11_isLeaf_106
  replace hf := if_f hf hc_23
  refine r_tbd (tgt := 107) X.hx X.hb dX11_isLeaf_1 [0, 1, 2, 3, 4, 5] (by decide) (List.forall_mem_cons.mpr ⟨lv_neT hc_1 rfl, List.forall_mem_cons.mpr ⟨lv_neT hc_5 rfl, List.forall_mem_cons.mpr ⟨lv_neT hc_9 rfl, List.forall_mem_cons.mpr ⟨lv_neT hc_13 rfl, List.forall_mem_cons.mpr ⟨lv_neT hc_17 rfl, List.forall_mem_cons.mpr ⟨lv_neT hc_23 rfl, fun _ h => absurd h List.not_mem_nil⟩⟩⟩⟩⟩⟩) (by decide) ?_
  refine lv_iload_n X.hx X.hb dX11_isLeaf_107 rfl (lv_at hl 2 rfl) ?_
  refine lv_bipush (v := 6) X.hx X.hb dX11_isLeaf_108 (by decide) ?_
  obtain ⟨K_26, eK_28, hf⟩ := jn_i hf
  have hj_27 : ∀ (y_29 : Int32) (H : Heap) (locs : List Loc) (ls : Array Slot), K_26 y_29 = some r → va_P G.1 vwCl (gY G uY iY sY tY jY) H → va_D A (gY G uY iY sY tY jY) → va_S A s.heap H locs → lv_has ls 6 [(3, .int p3), (4, .int p4)] → W p l e (RM 3) s m args below meth c H locs 0 0 QQ (F0 m 163 ls [.int y_29]) := by
    intro y_29 H locs ls hf hP hD hS hl
    rw [eK_28] at hf
    try dsimp only at hf
    refine lv_istore (lv' := [(5, .int y_29), (3, .int p3), (4, .int p4)]) X.hx X.hb dX11_isLeaf_163 hl (by decide) rfl (fun ls hl => ?_)
    refine lv_iload_n X.hx X.hb dX11_isLeaf_165 rfl (lv_at hl 1 rfl) ?_
    refine lv_bipush (v := 60) X.hx X.hb dX11_isLeaf_166 (by decide) ?_
    refine lv_icmp_ne (tgt := 186) X.hx X.hb dX11_isLeaf_168 (by decide) (fun hc_30 => ?_) (fun hc_30 => ?_)
    · replace hf := if_f hf hc_30
      refine lv_iload_n X.hx X.hb dX11_isLeaf_186 rfl (lv_at hl 1 rfl) ?_
      refine lv_bipush (v := 61) X.hx X.hb dX11_isLeaf_187 (by decide) ?_
      refine lv_icmp_ne (tgt := 207) X.hx X.hb dX11_isLeaf_189 (by decide) (fun hc_31 => ?_) (fun hc_31 => ?_)
      · replace hf := if_f hf hc_31
        refine lv_iload X.hx X.hb dX11_isLeaf_207 (lv_at hl 0 rfl) ?_
        refine lv_iload X.hx X.hb dX11_isLeaf_209 (lv_at hl 2 rfl) ?_
        refine lv_icmp_le (tgt := 218) X.hx X.hb dX11_isLeaf_211 (by decide) (fun hc_32 => ?_) (fun hc_32 => ?_)
        · replace hf := if_t hf hc_32
          refine lv_iconst (v := 0) X.hx X.hb dX11_isLeaf_218 (by decide) ?_
          cases hf
          subst hQ
          exact r_zret X hP hD hS (by decide) dX11_isLeaf_219
        · replace hf := if_f hf hc_32
          refine lv_iconst (v := 1) X.hx X.hb dX11_isLeaf_214 (by decide) ?_
          refine lv_goto (tgt := 219) X.hx X.hb dX11_isLeaf_215 (by decide) ?_
          cases hf
          subst hQ
          exact r_zret X hP hD hS (by decide) dX11_isLeaf_219
      · replace hf := if_t hf hc_31
        refine lv_iload X.hx X.hb dX11_isLeaf_192 (lv_at hl 0 rfl) ?_
        refine lv_iload X.hx X.hb dX11_isLeaf_194 (lv_at hl 2 rfl) ?_
        refine lv_icmp_ne (tgt := 203) X.hx X.hb dX11_isLeaf_196 (by decide) (fun hc_33 => ?_) (fun hc_33 => ?_)
        · replace hf := if_f hf hc_33
          refine lv_iconst (v := 0) X.hx X.hb dX11_isLeaf_203 (by decide) ?_
          refine lv_goto (tgt := 219) X.hx X.hb dX11_isLeaf_204 (by decide) ?_
          cases hf
          subst hQ
          exact r_zret X hP hD hS (by decide) dX11_isLeaf_219
        · replace hf := if_t hf hc_33
          refine lv_iconst (v := 1) X.hx X.hb dX11_isLeaf_199 (by decide) ?_
          refine lv_goto (tgt := 219) X.hx X.hb dX11_isLeaf_200 (by decide) ?_
          cases hf
          subst hQ
          exact r_zret X hP hD hS (by decide) dX11_isLeaf_219
    · replace hf := if_t hf hc_30
      refine lv_iload X.hx X.hb dX11_isLeaf_171 (lv_at hl 0 rfl) ?_
      refine lv_iload X.hx X.hb dX11_isLeaf_173 (lv_at hl 2 rfl) ?_
      refine lv_icmp_ge (tgt := 182) X.hx X.hb dX11_isLeaf_175 (by decide) (fun hc_34 => ?_) (fun hc_34 => ?_)
      · replace hf := if_t hf hc_34
        refine lv_iconst (v := 0) X.hx X.hb dX11_isLeaf_182 (by decide) ?_
        refine lv_goto (tgt := 219) X.hx X.hb dX11_isLeaf_183 (by decide) ?_
        cases hf
        subst hQ
        exact r_zret X hP hD hS (by decide) dX11_isLeaf_219
      · replace hf := if_f hf hc_34
        refine lv_iconst (v := 1) X.hx X.hb dX11_isLeaf_178 (by decide) ?_
        refine lv_goto (tgt := 219) X.hx X.hb dX11_isLeaf_179 (by decide) ?_
        cases hf
        subst hQ
        exact r_zret X hP hD hS (by decide) dX11_isLeaf_219
  refine lv_icmp_ne (tgt := 126) X.hx X.hb dX11_isLeaf_110 (by decide) (fun hc_35 => ?_) (fun hc_35 => ?_)
  · replace hf := if_f hf hc_35
    refine lv_iload_n X.hx X.hb dX11_isLeaf_126 rfl (lv_at hl 2 rfl) ?_
    refine lv_bipush (v := 7) X.hx X.hb dX11_isLeaf_127 (by decide) ?_
    refine lv_icmp_ne (tgt := 143) X.hx X.hb dX11_isLeaf_129 (by decide) (fun hc_36 => ?_) (fun hc_36 => ?_)
    · replace hf := if_f hf hc_36
      refine lv_iload_n X.hx X.hb dX11_isLeaf_143 rfl (lv_at hl 2 rfl) ?_
      refine lv_bipush (v := 8) X.hx X.hb dX11_isLeaf_144 (by decide) ?_
      refine lv_icmp_ne (tgt := 162) X.hx X.hb dX11_isLeaf_146 (by decide) (fun hc_37 => ?_) (fun hc_37 => ?_)
      · replace hf := if_f hf hc_37
        refine lv_iload_n X.hx X.hb dX11_isLeaf_162 rfl (lv_at hl 1 rfl) ?_
        exact hj_27 _ _ _ _ hf hP hD hS (lv_sub hl [3, 4] rfl)
      · replace hf := if_t hf hc_37
        refine lv_aload_n X.hx X.hb dX11_isLeaf_149 rfl (lv_at hl 0 rfl) ?_
        refine gf_X11_33 X hP 0 rfl (v := .ref (uY 7)) rfl dX11_isLeaf_150 ?_
        refine lv_sipush (v := 213) X.hx X.hb dX11_isLeaf_153 (by decide) ?_
        refine lv_iload_n X.hx X.hb dX11_isLeaf_156 rfl (lv_at hl 1 rfl) ?_
        refine lv_iadd X.hx X.hb dX11_isLeaf_157 ?_
        obtain ⟨hi_38, hf⟩ := ck_i hf
        refine r_iald X hP 2 (f := (sY 6)) rfl hi_38 dX11_isLeaf_158 ?_
        refine lv_goto (tgt := 163) X.hx X.hb dX11_isLeaf_159 (by decide) ?_
        exact hj_27 _ _ _ _ hf hP hD hS (lv_sub hl [3, 4] rfl)
    · replace hf := if_t hf hc_36
      refine lv_aload_n X.hx X.hb dX11_isLeaf_132 rfl (lv_at hl 0 rfl) ?_
      refine lv_iload_n X.hx X.hb dX11_isLeaf_133 rfl (lv_at hl 1 rfl) ?_
      obtain ⟨r_39, hc_40, hf⟩ := bd_i hf
      refine r_wvi (As := [.int p1]) (rest := []) X sm_X11_265 (c_X11_knownBy l G N uY iY sY tY jY p1 hc_40) hP hD hS hA 0 rfl rfl rfl hl.1 (lv_room (Nat.le_of_ble_eq_true rfl)) ⟨Nat.le_of_ble_eq_true rfl, Nat.le_of_ble_eq_true rfl⟩ ⟨Nat.zero_le _, Nat.zero_le _⟩ dX11_isLeaf_134 (fun H locs hP hD hS => ?_)
      obtain ⟨r_41, hc_42, hf⟩ := bd_i hf
      refine r_cs0 (As := [.int r_39]) (rest := []) X sm_X11_284 (c_X11_bits l G N r_39 hc_42) hP hD hS hA rfl hl.1 (lv_room (Nat.le_of_ble_eq_true rfl)) ⟨Nat.le_of_ble_eq_true rfl, Nat.le_of_ble_eq_true rfl⟩ ⟨Nat.zero_le _, Nat.zero_le _⟩ dX11_isLeaf_137 (fun H locs hP hD hS => ?_)
      refine lv_goto (tgt := 163) X.hx X.hb dX11_isLeaf_140 (by decide) ?_
      exact hj_27 _ _ _ _ hf hP hD hS (lv_sub hl [3, 4] rfl)
  · replace hf := if_t hf hc_35
    refine lv_aload_n X.hx X.hb dX11_isLeaf_113 rfl (lv_at hl 0 rfl) ?_
    refine gf_X11_33 X hP 0 rfl (v := .ref (uY 7)) rfl dX11_isLeaf_114 ?_
    refine lv_sipush (v := 136) X.hx X.hb dX11_isLeaf_117 (by decide) ?_
    refine lv_iload_n X.hx X.hb dX11_isLeaf_120 rfl (lv_at hl 1 rfl) ?_
    refine lv_iadd X.hx X.hb dX11_isLeaf_121 ?_
    obtain ⟨hi_43, hf⟩ := ck_i hf
    refine r_iald X hP 2 (f := (sY 6)) rfl hi_43 dX11_isLeaf_122 ?_
    refine lv_goto (tgt := 163) X.hx X.hb dX11_isLeaf_123 (by decide) ?_
    exact hj_27 _ _ _ _ hf hP hD hS (lv_sub hl [3, 4] rfl)

def f_X11_isSaid_4 (N : Nat) (iY : Nat → Int32) (tY : Nat → Nat → Int64) (jY : Nat → Int64) (v1 : Int32) (K_1 : ((Nat → Nat → Int32)) → Option (Int32 × (Nat → Nat → Int32))) : Nat → (Nat → Nat → Int32) → (Int32) → (Int32) → Option (Int32 × (Nat → Nat → Int32))
  | 0, _, _, _ => none
  | k + 1, sY, v2, v3 => (if ((sY 6) 276) ≤ v3 then K_1 sY else nv ((277 : Int32) + ((3 : Int32) * v3)) (fun n_64 => ck n_64 457 (jn (fun (z : (Int32) × (Nat → Nat → Int32)) => match z with | (x2_69, sY_70) => f_X11_isSaid_4 N iY tY jY v1 K_1 k sY_70 x2_69 (v3 + 1)) (fun K_66 => (if ((sY 6) (ix n_64)) = 20 then ck (v2 - 1) 45 (jn (fun (z : (Int32)) => match z with | y_112 => ck (v2 - 1) 45 (nv (upd (sY 48) (ix (v2 - 1)) (vp_nar .boolean y_112)) (fun g_114 => K_66 (v2, (va_up sY 48 g_114))))) (fun K_109 => (if ((sY 48) (ix (v2 - 1))) = 0 then K_109 1 else K_109 0))) else ck n_64 457 (jn (fun (z : Unit) => match z with | () => ck n_64 457 (jn (fun (z : (Int32)) => match z with | y_80 => ck ((v2 + (-1)) - 1) 45 (nv (upd (sY 48) (ix ((v2 + (-1)) - 1)) (vp_nar .boolean y_80)) (fun g_82 => K_66 ((v2 + (-1)), (va_up sY 48 g_82))))) (fun K_77 => (if ((sY 6) (ix n_64)) = 21 then ck ((v2 + (-1)) - 1) 45 (jn (fun (z : Unit) => match z with | () => K_77 0) (fun K_92 => (if ((sY 48) (ix ((v2 + (-1)) - 1))) = 0 then K_92 () else ck (v2 + (-1)) 45 ((if ((sY 48) (ix (v2 + (-1)))) = 0 then K_92 () else K_77 1))))) else ck ((v2 + (-1)) - 1) 45 (jn (fun (z : Unit) => match z with | () => K_77 1) (fun K_85 => (if ((sY 48) (ix ((v2 + (-1)) - 1))) = 0 then ck (v2 + (-1)) 45 ((if ((sY 48) (ix (v2 + (-1)))) = 0 then K_77 0 else K_85 ())) else K_85 ()))))))) (fun K_73 => (if ((sY 6) (ix n_64)) = 21 then K_73 () else ck n_64 457 ((if ((sY 6) (ix n_64)) = 22 then K_73 () else ck n_64 457 (ck (n_64 + 1) 457 (ck (n_64 + 2) 457 (bd (f_X11_isLeaf N iY sY tY jY v1 ((sY 6) (ix n_64)) ((sY 6) (ix (n_64 + 1))) ((sY 6) (ix (n_64 + 2)))) (fun r_104 => ck v2 45 (nv (upd (sY 48) (ix v2) (vp_nar .boolean r_104)) (fun g_107 => K_66 ((v2 + 1), (va_up sY 48 g_107))))))))))))))))))
def f_X11_isSaid (N : Nat) (iY : Nat → Int32) (sY : Nat → Nat → Int32) (tY : Nat → Nat → Int64) (jY : Nat → Int64) (p1 : Int32) : Option (Int32 × (Nat → Nat → Int32)) :=
  jn (fun (z : (Nat → Nat → Int32)) => match z with | sY_4 => zb ((sY_4 48) 0) (some (((sY_4 48) 0), sY_4))) (fun K_1 => f_X11_isSaid_4 N iY tY jY p1 K_1 N sY 0 0)
set_option maxHeartbeats 4000000 in
set_option maxRecDepth 100000 in
theorem c_X11_isSaid (l : Launch) (G : GT) (N : Nat) (uY : Nat → Nat) (iY : Nat → Int32) (sY : Nat → Nat → Int32) (tY : Nat → Nat → Int64) (jY : Nat → Int64) (p1 : Int32) {r : Int32} {sY' : Nat → Nat → Int32} (hf : f_X11_isSaid N iY sY tY jY p1 = some (r, sY')) : CI l G yX11_isSaid cX11_isSaid 5 .boolean 4 [.ref (uY 0), .int p1] (gY G uY iY sY tY jY) r (gY G uY iY sY' tY jY) := by
  refine CI.of (by decide) (Nat.le_of_ble_eq_true rfl) ?_
  intro p e s m args below meth c A X hA hP hD hS ls hl
  have hl : lv_has ls 5 [(0, .ref (uY 0)), (1, .int p1)] := hl
  generalize hQ : MQ below (QI G A r (gY G uY iY sY' tY jY)) args s 0 0 A = QQ
  unfold f_X11_isSaid at hf
  refine lv_iconst (v := 0) X.hx X.hb dX11_isSaid_0 (by decide) ?_
  refine lv_istore_n (lv' := [(2, .int 0), (0, .ref (uY 0)), (1, .int p1)]) X.hx X.hb dX11_isSaid_1 rfl hl (by decide) rfl (fun ls hl => ?_)
  refine lv_iconst (v := 0) X.hx X.hb dX11_isSaid_2 (by decide) ?_
  refine lv_istore_n (lv' := [(3, .int 0), (2, .int 0), (0, .ref (uY 0)), (1, .int p1)]) X.hx X.hb dX11_isSaid_3 rfl hl (by decide) rfl (fun ls hl => ?_)
  obtain ⟨K_1, eK_3, hf⟩ := jn_i hf
  have hj_2 : ∀ (sY_4 : Nat → Nat → Int32) (H : Heap) (locs : List Loc) (ls : Array Slot), K_1 sY_4 = some (r, sY') → va_P G.1 vwCl (gY G uY iY sY_4 tY jY) H → va_D A (gY G uY iY sY_4 tY jY) → va_S A s.heap H locs → lv_has ls 5 [(0, .ref (uY 0))] → W p l e (RM 4) s m args below meth c H locs 0 0 QQ (F0 m 212 ls []) := by
    intro sY_4 H locs ls hf hP hD hS hl
    rw [eK_3] at hf
    try dsimp only at hf
    refine lv_aload_n X.hx X.hb dX11_isSaid_212 rfl (lv_at hl 0 rfl) ?_
    refine gf_X11_83 X hP 0 rfl (v := .ref (uY 49)) rfl dX11_isSaid_213 ?_
    refine lv_iconst (v := 0) X.hx X.hb dX11_isSaid_216 (by decide) ?_
    refine r_zald X hP 17 (f := (sY_4 48)) rfl (vp_c rfl) dX11_isSaid_217 ?_
    refine W.eq (g2 := F0 m 218 ls [.int ((sY_4 48) 0)]) rfl ?_
    obtain ⟨hb_5, hf⟩ := zb_i hf
    cases hf
    subst hQ
    exact r_zret X hP hD hS hb_5 dX11_isSaid_218
  have hlo_6 : ∀ (k : Nat) (sY_7 : Nat → Nat → Int32) (v2_8 : Int32) (v3_9 : Int32) (H : Heap) (locs : List Loc) (ls : Array Slot), f_X11_isSaid_4 N iY tY jY p1 K_1 k sY_7 v2_8 v3_9 = some (r, sY') → va_P G.1 vwCl (gY G uY iY sY_7 tY jY) H → va_D A (gY G uY iY sY_7 tY jY) → va_S A s.heap H locs → lv_has ls 5 [(0, .ref (uY 0)), (1, .int p1), (2, .int v2_8), (3, .int v3_9)] → W p l e (RM 4) s m args below meth c H locs 0 0 QQ (F0 m 4 ls []) := by
    intro k
    induction k with
    | zero => intro sY_7 v2_8 v3_9 H locs ls hf; exact absurd hf (by intro q; cases q)
    | succ k ih =>
      intro sY_7 v2_8 v3_9 H locs ls hf hP hD hS hl
      unfold f_X11_isSaid_4 at hf
      refine lv_iload_n X.hx X.hb dX11_isSaid_4 rfl (lv_at hl 3 rfl) ?_
      refine lv_aload_n X.hx X.hb dX11_isSaid_5 rfl (lv_at hl 0 rfl) ?_
      refine gf_X11_33 X hP 0 rfl (v := .ref (uY 7)) rfl dX11_isSaid_6 ?_
      refine lv_sipush (v := 276) X.hx X.hb dX11_isSaid_9 (by decide) ?_
      refine r_iald X hP 2 (f := (sY_7 6)) rfl (vp_c rfl) dX11_isSaid_12 ?_
      refine W.eq (g2 := F0 m 13 ls [.int ((sY_7 6) 276), .int v3_9]) rfl ?_
      refine lv_icmp_ge (tgt := 212) X.hx X.hb dX11_isSaid_13 (by decide) (fun hc_10 => ?_) (fun hc_10 => ?_)
      · replace hf := if_t hf hc_10
        exact hj_2 _ _ _ _ hf hP hD hS (lv_sub hl [0] rfl)
      · replace hf := if_f hf hc_10
        refine lv_sipush (v := 277) X.hx X.hb dX11_isSaid_16 (by decide) ?_
        refine lv_iconst (v := 3) X.hx X.hb dX11_isSaid_19 (by decide) ?_
        refine lv_iload_n X.hx X.hb dX11_isSaid_20 rfl (lv_at hl 3 rfl) ?_
        refine lv_imul X.hx X.hb dX11_isSaid_21 ?_
        refine lv_iadd X.hx X.hb dX11_isSaid_22 ?_
        obtain ⟨n_11, en_11, hf⟩ := nv_i hf
        refine r_nm en_11 ?_
        refine lv_istore (lv' := [(4, .int n_11), (0, .ref (uY 0)), (1, .int p1), (2, .int v2_8), (3, .int v3_9)]) X.hx X.hb dX11_isSaid_23 hl (by decide) rfl (fun ls hl => ?_)
        refine lv_aload_n X.hx X.hb dX11_isSaid_25 rfl (lv_at hl 1 rfl) ?_
        refine gf_X11_33 X hP 0 rfl (v := .ref (uY 7)) rfl dX11_isSaid_26 ?_
        refine lv_iload X.hx X.hb dX11_isSaid_29 (lv_at hl 0 rfl) ?_
        obtain ⟨hi_12, hf⟩ := ck_i hf
        refine r_iald X hP 2 (f := (sY_7 6)) rfl hi_12 dX11_isSaid_31 ?_
        refine lv_bipush (v := 20) X.hx X.hb dX11_isSaid_32 (by decide) ?_
        obtain ⟨K_13, eK_15, hf⟩ := jn_i hf
        have hj_14 : ∀ (x2_16 : Int32) (sY_17 : Nat → Nat → Int32) (H : Heap) (locs : List Loc) (ls : Array Slot), K_13 (x2_16, sY_17) = some (r, sY') → va_P G.1 vwCl (gY G uY iY sY_17 tY jY) H → va_D A (gY G uY iY sY_17 tY jY) → va_S A s.heap H locs → lv_has ls 5 [(0, .ref (uY 0)), (1, .int p1), (2, .int x2_16), (3, .int v3_9)] → W p l e (RM 4) s m args below meth c H locs 0 0 QQ (F0 m 206 ls []) := by
          intro x2_16 sY_17 H locs ls hf hP hD hS hl
          rw [eK_15] at hf
          try dsimp only at hf
          refine lv_iinc (v := (v3_9 + 1)) (lv' := [(3, .int (v3_9 + 1)), (0, .ref (uY 0)), (1, .int p1), (2, .int x2_16)]) X.hx X.hb dX11_isSaid_206 hl (k := 3) rfl rfl (by decide) rfl (fun ls hl => ?_)
          refine lv_goto (tgt := 4) X.hx X.hb dX11_isSaid_209 (by decide) ?_
          exact ih _ _ _ _ _ _ hf hP hD hS (lv_sub hl [1, 2, 3, 0] rfl)
        refine lv_icmp_ne (tgt := 64) X.hx X.hb dX11_isSaid_34 (by decide) (fun hc_18 => ?_) (fun hc_18 => ?_)
        · replace hf := if_f hf hc_18
          refine lv_aload_n X.hx X.hb dX11_isSaid_64 rfl (lv_at hl 1 rfl) ?_
          refine gf_X11_33 X hP 0 rfl (v := .ref (uY 7)) rfl dX11_isSaid_65 ?_
          refine lv_iload X.hx X.hb dX11_isSaid_68 (lv_at hl 0 rfl) ?_
          obtain ⟨hi_19, hf⟩ := ck_i hf
          refine r_iald X hP 2 (f := (sY_7 6)) rfl hi_19 dX11_isSaid_70 ?_
          refine lv_bipush (v := 21) X.hx X.hb dX11_isSaid_71 (by decide) ?_
          obtain ⟨K_20, eK_22, hf⟩ := jn_i hf
          have hj_21 : ∀ (H : Heap) (locs : List Loc) (ls : Array Slot), K_20 () = some (r, sY') → va_P G.1 vwCl (gY G uY iY sY_7 tY jY) H → va_D A (gY G uY iY sY_7 tY jY) → va_S A s.heap H locs → lv_has ls 5 [(0, .ref (uY 0)), (1, .int p1), (2, .int v2_8), (3, .int v3_9), (4, .int n_11)] → W p l e (RM 4) s m args below meth c H locs 0 0 QQ (F0 m 88 ls []) := by
            intro  H locs ls hf hP hD hS hl
            rw [eK_22] at hf
            try dsimp only at hf
            refine lv_iinc (v := (v2_8 + (-1))) (lv' := [(2, .int (v2_8 + (-1))), (0, .ref (uY 0)), (1, .int p1), (3, .int v3_9), (4, .int n_11)]) X.hx X.hb dX11_isSaid_88 hl (k := 2) rfl rfl (by decide) rfl (fun ls hl => ?_)
            refine lv_aload_n X.hx X.hb dX11_isSaid_91 rfl (lv_at hl 1 rfl) ?_
            refine gf_X11_83 X hP 0 rfl (v := .ref (uY 49)) rfl dX11_isSaid_92 ?_
            refine lv_iload_n X.hx X.hb dX11_isSaid_95 rfl (lv_at hl 0 rfl) ?_
            refine lv_iconst (v := 1) X.hx X.hb dX11_isSaid_96 (by decide) ?_
            refine lv_isub X.hx X.hb dX11_isSaid_97 ?_
            refine lv_aload_n X.hx X.hb dX11_isSaid_98 rfl (lv_at hl 1 rfl) ?_
            refine gf_X11_33 X hP 0 rfl (v := .ref (uY 7)) rfl dX11_isSaid_99 ?_
            refine lv_iload X.hx X.hb dX11_isSaid_102 (lv_at hl 4 rfl) ?_
            obtain ⟨hi_23, hf⟩ := ck_i hf
            refine r_iald X hP 2 (f := (sY_7 6)) rfl hi_23 dX11_isSaid_104 ?_
            refine lv_bipush (v := 21) X.hx X.hb dX11_isSaid_105 (by decide) ?_
            obtain ⟨K_24, eK_26, hf⟩ := jn_i hf
            have hj_25 : ∀ (y_27 : Int32) (H : Heap) (locs : List Loc) (ls : Array Slot), K_24 y_27 = some (r, sY') → va_P G.1 vwCl (gY G uY iY sY_7 tY jY) H → va_D A (gY G uY iY sY_7 tY jY) → va_S A s.heap H locs → lv_has ls 5 [(0, .ref (uY 0)), (1, .int p1), (2, .int (v2_8 + (-1))), (3, .int v3_9)] → W p l e (RM 4) s m args below meth c H locs 0 0 QQ (F0 m 163 ls [.int y_27, .int ((v2_8 + (-1)) - 1), .ref (uY 49)]) := by
              intro y_27 H locs ls hf hP hD hS hl
              rw [eK_26] at hf
              try dsimp only at hf
              obtain ⟨hi_28, hf⟩ := ck_i hf
              obtain ⟨g_29, eg_29, hf⟩ := nv_i hf
              refine r_zast X hP hD hS 17 (f := (sY_7 48)) rfl hi_28 (wo := (gY G uY iY (va_up sY_7 48 g_29) tY jY)) (by subst eg_29; rfl) dX11_isSaid_163 (fun H locs hP hD hS => ?_)
              refine lv_goto (tgt := 206) X.hx X.hb dX11_isSaid_164 (by decide) ?_
              exact hj_14 _ _ _ _ _ hf hP hD hS (lv_sub hl [0, 1, 2, 3] rfl)
            refine lv_icmp_ne (tgt := 138) X.hx X.hb dX11_isSaid_107 (by decide) (fun hc_30 => ?_) (fun hc_30 => ?_)
            · replace hf := if_f hf hc_30
              refine lv_aload_n X.hx X.hb dX11_isSaid_138 rfl (lv_at hl 1 rfl) ?_
              refine gf_X11_83 X hP 0 rfl (v := .ref (uY 49)) rfl dX11_isSaid_139 ?_
              refine lv_iload_n X.hx X.hb dX11_isSaid_142 rfl (lv_at hl 0 rfl) ?_
              refine lv_iconst (v := 1) X.hx X.hb dX11_isSaid_143 (by decide) ?_
              refine lv_isub X.hx X.hb dX11_isSaid_144 ?_
              obtain ⟨hi_31, hf⟩ := ck_i hf
              refine r_zald X hP 17 (f := (sY_7 48)) rfl hi_31 dX11_isSaid_145 ?_
              obtain ⟨K_32, eK_34, hf⟩ := jn_i hf
              have hj_33 : ∀ (H : Heap) (locs : List Loc) (ls : Array Slot), K_32 () = some (r, sY') → va_P G.1 vwCl (gY G uY iY sY_7 tY jY) H → va_D A (gY G uY iY sY_7 tY jY) → va_S A s.heap H locs → lv_has ls 5 [(0, .ref (uY 0)), (1, .int p1), (2, .int (v2_8 + (-1))), (3, .int v3_9)] → W p l e (RM 4) s m args below meth c H locs 0 0 QQ (F0 m 158 ls [.int ((v2_8 + (-1)) - 1), .ref (uY 49)]) := by
                intro  H locs ls hf hP hD hS hl
                rw [eK_34] at hf
                try dsimp only at hf
                refine lv_iconst (v := 1) X.hx X.hb dX11_isSaid_158 (by decide) ?_
                refine lv_goto (tgt := 163) X.hx X.hb dX11_isSaid_159 (by decide) ?_
                exact hj_25 _ _ _ _ hf hP hD hS (lv_sub hl [0, 1, 2, 3] rfl)
              refine lv_if_ne (tgt := 158) X.hx X.hb dX11_isSaid_146 (by decide) (fun hc_35 => ?_) (fun hc_35 => ?_)
              · replace hf := if_f hf hc_35
                exact hj_33 _ _ _ hf hP hD hS (lv_sub hl [1, 2, 0, 3] rfl)
              · replace hf := if_t hf hc_35
                refine lv_aload_n X.hx X.hb dX11_isSaid_149 rfl (lv_at hl 1 rfl) ?_
                refine gf_X11_83 X hP 0 rfl (v := .ref (uY 49)) rfl dX11_isSaid_150 ?_
                refine lv_iload_n X.hx X.hb dX11_isSaid_153 rfl (lv_at hl 0 rfl) ?_
                obtain ⟨hi_36, hf⟩ := ck_i hf
                refine r_zald X hP 17 (f := (sY_7 48)) rfl hi_36 dX11_isSaid_154 ?_
                refine lv_if_eq (tgt := 162) X.hx X.hb dX11_isSaid_155 (by decide) (fun hc_37 => ?_) (fun hc_37 => ?_)
                · replace hf := if_t hf hc_37
                  refine lv_iconst (v := 0) X.hx X.hb dX11_isSaid_162 (by decide) ?_
                  exact hj_25 _ _ _ _ hf hP hD hS (lv_sub hl [1, 2, 0, 3] rfl)
                · replace hf := if_f hf hc_37
                  exact hj_33 _ _ _ hf hP hD hS (lv_sub hl [1, 2, 0, 3] rfl)
            · replace hf := if_t hf hc_30
              refine lv_aload_n X.hx X.hb dX11_isSaid_110 rfl (lv_at hl 1 rfl) ?_
              refine gf_X11_83 X hP 0 rfl (v := .ref (uY 49)) rfl dX11_isSaid_111 ?_
              refine lv_iload_n X.hx X.hb dX11_isSaid_114 rfl (lv_at hl 0 rfl) ?_
              refine lv_iconst (v := 1) X.hx X.hb dX11_isSaid_115 (by decide) ?_
              refine lv_isub X.hx X.hb dX11_isSaid_116 ?_
              obtain ⟨hi_38, hf⟩ := ck_i hf
              refine r_zald X hP 17 (f := (sY_7 48)) rfl hi_38 dX11_isSaid_117 ?_
              obtain ⟨K_39, eK_41, hf⟩ := jn_i hf
              have hj_40 : ∀ (H : Heap) (locs : List Loc) (ls : Array Slot), K_39 () = some (r, sY') → va_P G.1 vwCl (gY G uY iY sY_7 tY jY) H → va_D A (gY G uY iY sY_7 tY jY) → va_S A s.heap H locs → lv_has ls 5 [(0, .ref (uY 0)), (1, .int p1), (2, .int (v2_8 + (-1))), (3, .int v3_9)] → W p l e (RM 4) s m args below meth c H locs 0 0 QQ (F0 m 134 ls [.int ((v2_8 + (-1)) - 1), .ref (uY 49)]) := by
                intro  H locs ls hf hP hD hS hl
                rw [eK_41] at hf
                try dsimp only at hf
                refine lv_iconst (v := 0) X.hx X.hb dX11_isSaid_134 (by decide) ?_
                refine lv_goto (tgt := 163) X.hx X.hb dX11_isSaid_135 (by decide) ?_
                exact hj_25 _ _ _ _ hf hP hD hS (lv_sub hl [0, 1, 2, 3] rfl)
              refine lv_if_eq (tgt := 134) X.hx X.hb dX11_isSaid_118 (by decide) (fun hc_42 => ?_) (fun hc_42 => ?_)
              · replace hf := if_t hf hc_42
                exact hj_40 _ _ _ hf hP hD hS (lv_sub hl [1, 2, 0, 3] rfl)
              · replace hf := if_f hf hc_42
                refine lv_aload_n X.hx X.hb dX11_isSaid_121 rfl (lv_at hl 1 rfl) ?_
                refine gf_X11_83 X hP 0 rfl (v := .ref (uY 49)) rfl dX11_isSaid_122 ?_
                refine lv_iload_n X.hx X.hb dX11_isSaid_125 rfl (lv_at hl 0 rfl) ?_
                obtain ⟨hi_43, hf⟩ := ck_i hf
                refine r_zald X hP 17 (f := (sY_7 48)) rfl hi_43 dX11_isSaid_126 ?_
                refine lv_if_eq (tgt := 134) X.hx X.hb dX11_isSaid_127 (by decide) (fun hc_44 => ?_) (fun hc_44 => ?_)
                · replace hf := if_t hf hc_44
                  exact hj_40 _ _ _ hf hP hD hS (lv_sub hl [1, 2, 0, 3] rfl)
                · replace hf := if_f hf hc_44
                  refine lv_iconst (v := 1) X.hx X.hb dX11_isSaid_130 (by decide) ?_
                  refine lv_goto (tgt := 163) X.hx X.hb dX11_isSaid_131 (by decide) ?_
                  exact hj_25 _ _ _ _ hf hP hD hS (lv_sub hl [1, 2, 0, 3] rfl)
          refine lv_icmp_eq (tgt := 88) X.hx X.hb dX11_isSaid_73 (by decide) (fun hc_45 => ?_) (fun hc_45 => ?_)
          · replace hf := if_t hf hc_45
            exact hj_21 _ _ _ hf hP hD hS (lv_sub hl [1, 2, 3, 4, 0] rfl)
          · replace hf := if_f hf hc_45
            refine lv_aload_n X.hx X.hb dX11_isSaid_76 rfl (lv_at hl 1 rfl) ?_
            refine gf_X11_33 X hP 0 rfl (v := .ref (uY 7)) rfl dX11_isSaid_77 ?_
            refine lv_iload X.hx X.hb dX11_isSaid_80 (lv_at hl 0 rfl) ?_
            obtain ⟨hi_46, hf⟩ := ck_i hf
            refine r_iald X hP 2 (f := (sY_7 6)) rfl hi_46 dX11_isSaid_82 ?_
            refine lv_bipush (v := 22) X.hx X.hb dX11_isSaid_83 (by decide) ?_
            refine lv_icmp_ne (tgt := 167) X.hx X.hb dX11_isSaid_85 (by decide) (fun hc_47 => ?_) (fun hc_47 => ?_)
            · replace hf := if_f hf hc_47
              refine lv_aload_n X.hx X.hb dX11_isSaid_167 rfl (lv_at hl 1 rfl) ?_
              refine gf_X11_83 X hP 0 rfl (v := .ref (uY 49)) rfl dX11_isSaid_168 ?_
              refine lv_iload_n X.hx X.hb dX11_isSaid_171 rfl (lv_at hl 3 rfl) ?_
              refine lv_aload_n X.hx X.hb dX11_isSaid_172 rfl (lv_at hl 1 rfl) ?_
              refine lv_iload_n X.hx X.hb dX11_isSaid_173 rfl (lv_at hl 2 rfl) ?_
              refine lv_aload_n X.hx X.hb dX11_isSaid_174 rfl (lv_at hl 1 rfl) ?_
              refine gf_X11_33 X hP 0 rfl (v := .ref (uY 7)) rfl dX11_isSaid_175 ?_
              refine lv_iload X.hx X.hb dX11_isSaid_178 (lv_at hl 0 rfl) ?_
              obtain ⟨hi_48, hf⟩ := ck_i hf
              refine r_iald X hP 2 (f := (sY_7 6)) rfl hi_48 dX11_isSaid_180 ?_
              refine lv_aload_n X.hx X.hb dX11_isSaid_181 rfl (lv_at hl 1 rfl) ?_
              refine gf_X11_33 X hP 0 rfl (v := .ref (uY 7)) rfl dX11_isSaid_182 ?_
              refine lv_iload X.hx X.hb dX11_isSaid_185 (lv_at hl 0 rfl) ?_
              refine lv_iconst (v := 1) X.hx X.hb dX11_isSaid_187 (by decide) ?_
              refine lv_iadd X.hx X.hb dX11_isSaid_188 ?_
              obtain ⟨hi_49, hf⟩ := ck_i hf
              refine r_iald X hP 2 (f := (sY_7 6)) rfl hi_49 dX11_isSaid_189 ?_
              refine lv_aload_n X.hx X.hb dX11_isSaid_190 rfl (lv_at hl 1 rfl) ?_
              refine gf_X11_33 X hP 0 rfl (v := .ref (uY 7)) rfl dX11_isSaid_191 ?_
              refine lv_iload X.hx X.hb dX11_isSaid_194 (lv_at hl 0 rfl) ?_
              refine lv_iconst (v := 2) X.hx X.hb dX11_isSaid_196 (by decide) ?_
              refine lv_iadd X.hx X.hb dX11_isSaid_197 ?_
              obtain ⟨hi_50, hf⟩ := ck_i hf
              refine r_iald X hP 2 (f := (sY_7 6)) rfl hi_50 dX11_isSaid_198 ?_
              obtain ⟨r_51, hc_52, hf⟩ := bd_i hf
              refine r_wvi (As := [.int p1, .int ((sY_7 6) (ix n_11)), .int ((sY_7 6) (ix (n_11 + 1))), .int ((sY_7 6) (ix (n_11 + 2)))]) (rest := [.int v2_8, .ref (uY 49)]) X sm_X11_467 (c_X11_isLeaf l G N uY iY sY_7 tY jY p1 ((sY_7 6) (ix n_11)) ((sY_7 6) (ix (n_11 + 1))) ((sY_7 6) (ix (n_11 + 2))) hc_52) hP hD hS hA 0 rfl rfl rfl hl.1 (lv_room (Nat.le_of_ble_eq_true rfl)) ⟨Nat.le_of_ble_eq_true rfl, Nat.le_of_ble_eq_true rfl⟩ ⟨Nat.zero_le _, Nat.zero_le _⟩ dX11_isSaid_199 (fun H locs hP hD hS => ?_)
              obtain ⟨hi_53, hf⟩ := ck_i hf
              obtain ⟨g_54, eg_54, hf⟩ := nv_i hf
              refine r_zast X hP hD hS 17 (f := (sY_7 48)) rfl hi_53 (wo := (gY G uY iY (va_up sY_7 48 g_54) tY jY)) (by subst eg_54; rfl) dX11_isSaid_202 (fun H locs hP hD hS => ?_)
              refine lv_iinc (v := (v2_8 + 1)) (lv' := [(2, .int (v2_8 + 1)), (4, .int n_11), (0, .ref (uY 0)), (1, .int p1), (3, .int v3_9)]) X.hx X.hb dX11_isSaid_203 hl (k := 3) rfl rfl (by decide) rfl (fun ls hl => ?_)
              exact hj_14 _ _ _ _ _ hf hP hD hS (lv_sub hl [2, 3, 0, 4] rfl)
            · replace hf := if_t hf hc_47
              exact hj_21 _ _ _ hf hP hD hS (lv_sub hl [1, 2, 3, 4, 0] rfl)
        · replace hf := if_t hf hc_18
          refine lv_aload_n X.hx X.hb dX11_isSaid_37 rfl (lv_at hl 1 rfl) ?_
          refine gf_X11_83 X hP 0 rfl (v := .ref (uY 49)) rfl dX11_isSaid_38 ?_
          refine lv_iload_n X.hx X.hb dX11_isSaid_41 rfl (lv_at hl 3 rfl) ?_
          refine lv_iconst (v := 1) X.hx X.hb dX11_isSaid_42 (by decide) ?_
          refine lv_isub X.hx X.hb dX11_isSaid_43 ?_
          refine lv_aload_n X.hx X.hb dX11_isSaid_44 rfl (lv_at hl 1 rfl) ?_
          refine gf_X11_83 X hP 0 rfl (v := .ref (uY 49)) rfl dX11_isSaid_45 ?_
          refine lv_iload_n X.hx X.hb dX11_isSaid_48 rfl (lv_at hl 3 rfl) ?_
          refine lv_iconst (v := 1) X.hx X.hb dX11_isSaid_49 (by decide) ?_
          refine lv_isub X.hx X.hb dX11_isSaid_50 ?_
          obtain ⟨hi_55, hf⟩ := ck_i hf
          refine r_zald X hP 17 (f := (sY_7 48)) rfl hi_55 dX11_isSaid_51 ?_
          obtain ⟨K_56, eK_58, hf⟩ := jn_i hf
          have hj_57 : ∀ (y_59 : Int32) (H : Heap) (locs : List Loc) (ls : Array Slot), K_56 y_59 = some (r, sY') → va_P G.1 vwCl (gY G uY iY sY_7 tY jY) H → va_D A (gY G uY iY sY_7 tY jY) → va_S A s.heap H locs → lv_has ls 5 [(0, .ref (uY 0)), (1, .int p1), (2, .int v2_8), (3, .int v3_9)] → W p l e (RM 4) s m args below meth c H locs 0 0 QQ (F0 m 60 ls [.int y_59, .int (v2_8 - 1), .ref (uY 49)]) := by
            intro y_59 H locs ls hf hP hD hS hl
            rw [eK_58] at hf
            try dsimp only at hf
            obtain ⟨hi_60, hf⟩ := ck_i hf
            obtain ⟨g_61, eg_61, hf⟩ := nv_i hf
            refine r_zast X hP hD hS 17 (f := (sY_7 48)) rfl hi_60 (wo := (gY G uY iY (va_up sY_7 48 g_61) tY jY)) (by subst eg_61; rfl) dX11_isSaid_60 (fun H locs hP hD hS => ?_)
            refine lv_goto (tgt := 206) X.hx X.hb dX11_isSaid_61 (by decide) ?_
            exact hj_14 _ _ _ _ _ hf hP hD hS (lv_sub hl [0, 1, 2, 3] rfl)
          refine lv_if_ne (tgt := 59) X.hx X.hb dX11_isSaid_52 (by decide) (fun hc_62 => ?_) (fun hc_62 => ?_)
          · replace hf := if_f hf hc_62
            refine lv_iconst (v := 0) X.hx X.hb dX11_isSaid_59 (by decide) ?_
            exact hj_57 _ _ _ _ hf hP hD hS (lv_sub hl [1, 2, 3, 4] rfl)
          · replace hf := if_t hf hc_62
            refine lv_iconst (v := 1) X.hx X.hb dX11_isSaid_55 (by decide) ?_
            refine lv_goto (tgt := 60) X.hx X.hb dX11_isSaid_56 (by decide) ?_
            exact hj_57 _ _ _ _ hf hP hD hS (lv_sub hl [1, 2, 3, 4] rfl)
  exact hlo_6 N _ _ _ _ _ _ hf hP hD hS (lv_sub hl [2, 3, 1, 0] rfl)

def f_X11_said_27 (N : Nat) (iY : Nat → Int32) (tY : Nat → Nat → Int64) (jY : Nat → Int64) (v1 : Int32) (K_3 : ((Int32) × (Nat → Nat → Int32)) → Option (Int32 × (Nat → Int32) × (Nat → Nat → Int32))) : Nat → (Nat → Nat → Int32) → (Int32) → (Int32) → Option (Int32 × (Nat → Int32) × (Nat → Nat → Int32))
  | 0, _, _, _ => none
  | k + 1, sY, v2, v3 => (if ((sY 6) 0) ≤ v3 then K_3 (v2, sY) else bd (f_X11_isSaid N iY sY tY jY v3) (fun (r_24, sY_25) => jn (fun (z : (Int32)) => match z with | x2_30 => f_X11_said_27 N iY tY jY v1 K_3 k sY_25 x2_30 (v3 + 1)) (fun K_27 => (if r_24 = 0 then K_27 v2 else (if v2 = v1 then some (v3, iY, sY_25) else K_27 (v2 + 1))))))
def f_X11_said (N : Nat) (iY : Nat → Int32) (sY : Nat → Nat → Int32) (tY : Nat → Nat → Int64) (jY : Nat → Int64) (p1 : Int32) : Option (Int32 × (Nat → Int32) × (Nat → Nat → Int32)) :=
  (if ((sY 6) 276) = 0 then some ((-1), (va_up iY 0 0), sY) else (if ((-1) : Int32) ≤ p1 then jn (fun (z : (Int32) × (Nat → Nat → Int32)) => match z with | (x2_6, sY_7) => (if p1 = (-1) then some (x2_6, (va_up iY 0 0), sY_7) else some ((-1), (va_up iY 0 0), sY_7))) (fun K_3 => f_X11_said_27 N (va_up iY 0 0) tY jY p1 K_3 N sY 0 0) else some ((-1), (va_up iY 0 0), sY)))
set_option maxHeartbeats 4000000 in
set_option maxRecDepth 100000 in
theorem c_X11_said (l : Launch) (G : GT) (N : Nat) (uY : Nat → Nat) (iY : Nat → Int32) (sY : Nat → Nat → Int32) (tY : Nat → Nat → Int64) (jY : Nat → Int64) (p1 : Int32) {r : Int32} {iY' : Nat → Int32} {sY' : Nat → Nat → Int32} (hf : f_X11_said N iY sY tY jY p1 = some (r, iY', sY')) : CI l G yX11_said cX11_said 4 .int 5 [.ref (uY 0), .int p1] (gY G uY iY sY tY jY) r (gY G uY iY' sY' tY jY) := by
  refine CI.of (by decide) (Nat.le_of_ble_eq_true rfl) ?_
  intro p e s m args below meth c A X hA hP hD hS ls hl
  have hl : lv_has ls 4 [(0, .ref (uY 0)), (1, .int p1)] := hl
  generalize hQ : MQ below (QI G A r (gY G uY iY' sY' tY jY)) args s 0 0 A = QQ
  unfold f_X11_said at hf
  refine lv_aload_n X.hx X.hb dX11_said_0 rfl (lv_at hl 0 rfl) ?_
  refine lv_iconst (v := 0) X.hx X.hb dX11_said_1 (by decide) ?_
  refine pf_X11_1 X hP hD hS 0 rfl rfl rfl (Nat.le_of_ble_eq_true rfl) (wo := (gY G uY (va_up iY 0 0) sY tY jY)) rfl dX11_said_2 (fun H locs hP hD hS => ?_)
  refine lv_aload_n X.hx X.hb dX11_said_5 rfl (lv_at hl 0 rfl) ?_
  refine gf_X11_33 X hP 0 rfl (v := .ref (uY 7)) rfl dX11_said_6 ?_
  refine lv_sipush (v := 276) X.hx X.hb dX11_said_9 (by decide) ?_
  refine r_iald X hP 2 (f := (sY 6)) rfl (vp_c rfl) dX11_said_12 ?_
  refine W.eq (g2 := F0 m 13 ls [.int ((sY 6) 276)]) rfl ?_
  refine lv_if_eq (tgt := 21) X.hx X.hb dX11_said_13 (by decide) (fun hc_1 => ?_) (fun hc_1 => ?_)
  · replace hf := if_t hf hc_1
    refine lv_iconst (v := (-1)) X.hx X.hb dX11_said_21 (by decide) ?_
    cases hf
    subst hQ
    exact r_iret X hP hD hS dX11_said_22
  · replace hf := if_f hf hc_1
    refine lv_iload_n X.hx X.hb dX11_said_16 rfl (lv_at hl 1 rfl) ?_
    refine lv_iconst (v := (-1)) X.hx X.hb dX11_said_17 (by decide) ?_
    refine lv_icmp_ge (tgt := 23) X.hx X.hb dX11_said_18 (by decide) (fun hc_2 => ?_) (fun hc_2 => ?_)
    · replace hf := if_t hf hc_2
      refine lv_iconst (v := 0) X.hx X.hb dX11_said_23 (by decide) ?_
      refine lv_istore_n (lv' := [(2, .int 0), (0, .ref (uY 0)), (1, .int p1)]) X.hx X.hb dX11_said_24 rfl hl (by decide) rfl (fun ls hl => ?_)
      refine lv_iconst (v := 0) X.hx X.hb dX11_said_25 (by decide) ?_
      refine lv_istore_n (lv' := [(3, .int 0), (2, .int 0), (0, .ref (uY 0)), (1, .int p1)]) X.hx X.hb dX11_said_26 rfl hl (by decide) rfl (fun ls hl => ?_)
      obtain ⟨K_3, eK_5, hf⟩ := jn_i hf
      have hj_4 : ∀ (x2_6 : Int32) (sY_7 : Nat → Nat → Int32) (H : Heap) (locs : List Loc) (ls : Array Slot), K_3 (x2_6, sY_7) = some (r, iY', sY') → va_P G.1 vwCl (gY G uY (va_up iY 0 0) sY_7 tY jY) H → va_D A (gY G uY (va_up iY 0 0) sY_7 tY jY) → va_S A s.heap H locs → lv_has ls 4 [(1, .int p1), (2, .int x2_6)] → W p l e (RM 5) s m args below meth c H locs 0 0 QQ (F0 m 64 ls []) := by
        intro x2_6 sY_7 H locs ls hf hP hD hS hl
        rw [eK_5] at hf
        try dsimp only at hf
        refine lv_iload_n X.hx X.hb dX11_said_64 rfl (lv_at hl 0 rfl) ?_
        refine lv_iconst (v := (-1)) X.hx X.hb dX11_said_65 (by decide) ?_
        refine lv_icmp_ne (tgt := 73) X.hx X.hb dX11_said_66 (by decide) (fun hc_8 => ?_) (fun hc_8 => ?_)
        · replace hf := if_f hf hc_8
          refine lv_iconst (v := (-1)) X.hx X.hb dX11_said_73 (by decide) ?_
          cases hf
          subst hQ
          exact r_iret X hP hD hS dX11_said_74
        · replace hf := if_t hf hc_8
          refine lv_iload_n X.hx X.hb dX11_said_69 rfl (lv_at hl 1 rfl) ?_
          refine lv_goto (tgt := 74) X.hx X.hb dX11_said_70 (by decide) ?_
          cases hf
          subst hQ
          exact r_iret X hP hD hS dX11_said_74
      have hlo_9 : ∀ (k : Nat) (sY_10 : Nat → Nat → Int32) (v2_11 : Int32) (v3_12 : Int32) (H : Heap) (locs : List Loc) (ls : Array Slot), f_X11_said_27 N (va_up iY 0 0) tY jY p1 K_3 k sY_10 v2_11 v3_12 = some (r, iY', sY') → va_P G.1 vwCl (gY G uY (va_up iY 0 0) sY_10 tY jY) H → va_D A (gY G uY (va_up iY 0 0) sY_10 tY jY) → va_S A s.heap H locs → lv_has ls 4 [(0, .ref (uY 0)), (1, .int p1), (2, .int v2_11), (3, .int v3_12)] → W p l e (RM 5) s m args below meth c H locs 0 0 QQ (F0 m 27 ls []) := by
        intro k
        induction k with
        | zero => intro sY_10 v2_11 v3_12 H locs ls hf; exact absurd hf (by intro q; cases q)
        | succ k ih =>
          intro sY_10 v2_11 v3_12 H locs ls hf hP hD hS hl
          unfold f_X11_said_27 at hf
          refine lv_iload_n X.hx X.hb dX11_said_27 rfl (lv_at hl 3 rfl) ?_
          refine lv_aload_n X.hx X.hb dX11_said_28 rfl (lv_at hl 0 rfl) ?_
          refine gf_X11_33 X hP 0 rfl (v := .ref (uY 7)) rfl dX11_said_29 ?_
          refine lv_iconst (v := 0) X.hx X.hb dX11_said_32 (by decide) ?_
          refine r_iald X hP 2 (f := (sY_10 6)) rfl (vp_c rfl) dX11_said_33 ?_
          refine W.eq (g2 := F0 m 34 ls [.int ((sY_10 6) 0), .int v3_12]) rfl ?_
          refine lv_icmp_ge (tgt := 64) X.hx X.hb dX11_said_34 (by decide) (fun hc_13 => ?_) (fun hc_13 => ?_)
          · replace hf := if_t hf hc_13
            exact hj_4 _ _ _ _ _ hf hP hD hS (lv_sub hl [1, 2] rfl)
          · replace hf := if_f hf hc_13
            refine lv_aload_n X.hx X.hb dX11_said_37 rfl (lv_at hl 0 rfl) ?_
            refine lv_iload_n X.hx X.hb dX11_said_38 rfl (lv_at hl 3 rfl) ?_
            obtain ⟨⟨r_14, sY_15⟩, hc_16, hf⟩ := bd_i hf
            refine r_wvi (As := [.int v3_12]) (rest := []) X sm_X11_470 (c_X11_isSaid l G N uY (va_up iY 0 0) sY_10 tY jY v3_12 hc_16) hP hD hS hA 0 rfl rfl rfl hl.1 (lv_room (Nat.le_of_ble_eq_true rfl)) ⟨Nat.le_of_ble_eq_true rfl, Nat.le_of_ble_eq_true rfl⟩ ⟨Nat.zero_le _, Nat.zero_le _⟩ dX11_said_39 (fun H locs hP hD hS => ?_)
            obtain ⟨K_17, eK_19, hf⟩ := jn_i hf
            have hj_18 : ∀ (x2_20 : Int32) (H : Heap) (locs : List Loc) (ls : Array Slot), K_17 x2_20 = some (r, iY', sY') → va_P G.1 vwCl (gY G uY (va_up iY 0 0) sY_15 tY jY) H → va_D A (gY G uY (va_up iY 0 0) sY_15 tY jY) → va_S A s.heap H locs → lv_has ls 4 [(0, .ref (uY 0)), (1, .int p1), (2, .int x2_20), (3, .int v3_12)] → W p l e (RM 5) s m args below meth c H locs 0 0 QQ (F0 m 58 ls []) := by
              intro x2_20 H locs ls hf hP hD hS hl
              rw [eK_19] at hf
              try dsimp only at hf
              refine lv_iinc (v := (v3_12 + 1)) (lv' := [(3, .int (v3_12 + 1)), (0, .ref (uY 0)), (1, .int p1), (2, .int x2_20)]) X.hx X.hb dX11_said_58 hl (k := 3) rfl rfl (by decide) rfl (fun ls hl => ?_)
              refine lv_goto (tgt := 27) X.hx X.hb dX11_said_61 (by decide) ?_
              exact ih _ _ _ _ _ _ hf hP hD hS (lv_sub hl [1, 2, 3, 0] rfl)
            refine lv_if_ne (tgt := 48) X.hx X.hb dX11_said_42 (by decide) (fun hc_21 => ?_) (fun hc_21 => ?_)
            · replace hf := if_f hf hc_21
              refine lv_iload_n X.hx X.hb dX11_said_48 rfl (lv_at hl 2 rfl) ?_
              refine lv_iload_n X.hx X.hb dX11_said_49 rfl (lv_at hl 1 rfl) ?_
              refine lv_icmp_ne (tgt := 55) X.hx X.hb dX11_said_50 (by decide) (fun hc_22 => ?_) (fun hc_22 => ?_)
              · replace hf := if_f hf hc_22
                refine lv_iinc (v := (v2_11 + 1)) (lv' := [(2, .int (v2_11 + 1)), (0, .ref (uY 0)), (1, .int p1), (3, .int v3_12)]) X.hx X.hb dX11_said_55 hl (k := 2) rfl rfl (by decide) rfl (fun ls hl => ?_)
                exact hj_18 _ _ _ _ hf hP hD hS (lv_sub hl [1, 2, 0, 3] rfl)
              · replace hf := if_t hf hc_22
                refine lv_iload_n X.hx X.hb dX11_said_53 rfl (lv_at hl 3 rfl) ?_
                cases hf
                subst hQ
                exact r_iret X hP hD hS dX11_said_54
            · replace hf := if_t hf hc_21
              refine lv_goto (tgt := 58) X.hx X.hb dX11_said_45 (by decide) ?_
              exact hj_18 _ _ _ _ hf hP hD hS (lv_sub hl [0, 1, 2, 3] rfl)
      exact hlo_9 N _ _ _ _ _ _ hf hP hD hS (lv_sub hl [2, 3, 1, 0] rfl)
    · replace hf := if_f hf hc_2
      refine lv_iconst (v := (-1)) X.hx X.hb dX11_said_21 (by decide) ?_
      cases hf
      subst hQ
      exact r_iret X hP hD hS dX11_said_22

