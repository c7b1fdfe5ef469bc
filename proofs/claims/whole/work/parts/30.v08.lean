def f_X11_told (N : Nat) (iY : Nat → Int32) (sY : Nat → Nat → Int32) (tY : Nat → Nat → Int64) (jY : Nat → Int64) (p1 : Int32) : Option (Int32 × (Nat → Int32)) :=
  (if (iY 41) = 0 then some ((-1), (va_up iY 0 0)) else bd (f_X11_isIn N p1 0 3) (fun r_2 => (if r_2 = 0 then some ((-1), (va_up iY 0 0)) else ck p1 4 (some (((sY 40) (ix p1)), (va_up iY 0 0))))))
set_option maxHeartbeats 4000000 in
set_option maxRecDepth 100000 in
theorem c_X11_told (l : Launch) (G : GT) (N : Nat) (uY : Nat → Nat) (iY : Nat → Int32) (sY : Nat → Nat → Int32) (tY : Nat → Nat → Int64) (jY : Nat → Int64) (p1 : Int32) {r : Int32} {iY' : Nat → Int32} (hf : f_X11_told N iY sY tY jY p1 = some (r, iY')) : CI l G yX11_told cX11_told 2 .int 2 [.ref (uY 0), .int p1] (gY G uY iY sY tY jY) r (gY G uY iY' sY tY jY) := by
  refine CI.of (by decide) (Nat.le_of_ble_eq_true rfl) ?_
  intro p e s m args below meth c A X hA hP hD hS ls hl
  have hl : lv_has ls 2 [(0, .ref (uY 0)), (1, .int p1)] := hl
  generalize hQ : MQ below (QI G A r (gY G uY iY' sY tY jY)) args s 0 0 A = QQ
  unfold f_X11_told at hf
  refine lv_aload_n X.hx X.hb dX11_told_0 rfl (lv_at hl 0 rfl) ?_
  refine lv_iconst (v := 0) X.hx X.hb dX11_told_1 (by decide) ?_
  refine pf_X11_1 X hP hD hS 0 rfl rfl rfl (Nat.le_of_ble_eq_true rfl) (wo := (gY G uY (va_up iY 0 0) sY tY jY)) rfl dX11_told_2 (fun H locs hP hD hS => ?_)
  refine lv_aload_n X.hx X.hb dX11_told_5 rfl (lv_at hl 0 rfl) ?_
  refine gf_X11_428 X hP 0 rfl (v := .int (iY 41)) rfl dX11_told_6 ?_
  refine lv_if_eq (tgt := 30) X.hx X.hb dX11_told_9 (by decide) (fun hc_1 => ?_) (fun hc_1 => ?_)
  · replace hf := if_t hf hc_1
    refine lv_iconst (v := (-1)) X.hx X.hb dX11_told_30 (by decide) ?_
    cases hf
    subst hQ
    exact r_iret X hP hD hS dX11_told_31
  · replace hf := if_f hf hc_1
    refine lv_iload_n X.hx X.hb dX11_told_12 rfl (lv_at hl 1 rfl) ?_
    refine lv_iconst (v := 0) X.hx X.hb dX11_told_13 (by decide) ?_
    refine lv_iconst (v := 3) X.hx X.hb dX11_told_14 (by decide) ?_
    obtain ⟨r_2, hc_3, hf⟩ := bd_i hf
    refine r_cs0 (As := [.int p1, .int 0, .int 3]) (rest := []) X sm_X11_189 (c_X11_isIn l G N p1 0 3 hc_3) hP hD hS hA rfl hl.1 (lv_room (Nat.le_of_ble_eq_true rfl)) ⟨Nat.le_of_ble_eq_true rfl, Nat.le_of_ble_eq_true rfl⟩ ⟨Nat.zero_le _, Nat.zero_le _⟩ dX11_told_15 (fun H locs hP hD hS => ?_)
    refine lv_if_eq (tgt := 30) X.hx X.hb dX11_told_18 (by decide) (fun hc_4 => ?_) (fun hc_4 => ?_)
    · replace hf := if_t hf hc_4
      refine lv_iconst (v := (-1)) X.hx X.hb dX11_told_30 (by decide) ?_
      cases hf
      subst hQ
      exact r_iret X hP hD hS dX11_told_31
    · replace hf := if_f hf hc_4
      refine lv_aload_n X.hx X.hb dX11_told_21 rfl (lv_at hl 0 rfl) ?_
      refine gf_X11_77 X hP 0 rfl (v := .ref (uY 41)) rfl dX11_told_22 ?_
      refine lv_iload_n X.hx X.hb dX11_told_25 rfl (lv_at hl 1 rfl) ?_
      obtain ⟨hi_5, hf⟩ := ck_i hf
      refine r_iald X hP 15 (f := (sY 40)) rfl hi_5 dX11_told_26 ?_
      refine lv_goto (tgt := 31) X.hx X.hb dX11_told_27 (by decide) ?_
      cases hf
      subst hQ
      exact r_iret X hP hD hS dX11_told_31

def f_X11_code (N : Nat) (iY : Nat → Int32) (sY : Nat → Nat → Int32) (tY : Nat → Nat → Int64) (jY : Nat → Int64) (p1 : Int32) (p2 : Int32) (p3 : Int32) : Option ((Nat → Int32) × (Nat → Nat → Int32)) :=
  ck ((3 : Int32) * (iY 43)) 160 (nv (upd (sY 8) (ix ((3 : Int32) * (iY 43))) p1) (fun g_2 => ck (((3 : Int32) * (iY 43)) + 1) 160 (nv (upd g_2 (ix (((3 : Int32) * (iY 43)) + 1)) p2) (fun g_4 => ck (((3 : Int32) * (iY 43)) + 2) 160 (nv (upd g_4 (ix (((3 : Int32) * (iY 43)) + 2)) p3) (fun g_6 => some ((va_up iY 43 ((iY 43) + 1)), (va_up sY 8 g_6))))))))
set_option maxHeartbeats 4000000 in
set_option maxRecDepth 100000 in
theorem c_X11_code (l : Launch) (G : GT) (N : Nat) (uY : Nat → Nat) (iY : Nat → Int32) (sY : Nat → Nat → Int32) (tY : Nat → Nat → Int64) (jY : Nat → Int64) (p1 : Int32) (p2 : Int32) (p3 : Int32) {iY' : Nat → Int32} {sY' : Nat → Nat → Int32} (hf : f_X11_code N iY sY tY jY p1 p2 p3 = some (iY', sY')) : CV l G yX11_code cX11_code 4 1 [.ref (uY 0), .int p1, .int p2, .int p3] (gY G uY iY sY tY jY) (gY G uY iY' sY' tY jY) := by
  refine CV.of (by decide) (Nat.le_of_ble_eq_true rfl) ?_
  intro p e s m args below meth c A X hA hP hD hS ls hl
  have hl : lv_has ls 4 [(0, .ref (uY 0)), (1, .int p1), (2, .int p2), (3, .int p3)] := hl
  generalize hQ : MQ below (QV G A (gY G uY iY' sY' tY jY)) args s 0 0 A = QQ
  unfold f_X11_code at hf
  refine lv_aload_n X.hx X.hb dX11_code_0 rfl (lv_at hl 0 rfl) ?_
  refine gf_X11_40 X hP 0 rfl (v := .ref (uY 9)) rfl dX11_code_1 ?_
  refine lv_iconst (v := 3) X.hx X.hb dX11_code_4 (by decide) ?_
  refine lv_aload_n X.hx X.hb dX11_code_5 rfl (lv_at hl 0 rfl) ?_
  refine gf_X11_431 X hP 0 rfl (v := .int (iY 43)) rfl dX11_code_6 ?_
  refine lv_imul X.hx X.hb dX11_code_9 ?_
  refine lv_iload_n X.hx X.hb dX11_code_10 rfl (lv_at hl 1 rfl) ?_
  obtain ⟨hi_1, hf⟩ := ck_i hf
  obtain ⟨g_2, eg_2, hf⟩ := nv_i hf
  refine r_iast X hP hD hS 4 (f := (sY 8)) rfl hi_1 (wo := (gY G uY iY (va_up sY 8 g_2) tY jY)) (by subst eg_2; rfl) dX11_code_11 (fun H locs hP hD hS => ?_)
  refine lv_aload_n X.hx X.hb dX11_code_12 rfl (lv_at hl 0 rfl) ?_
  refine gf_X11_40 X hP 0 rfl (v := .ref (uY 9)) rfl dX11_code_13 ?_
  refine lv_iconst (v := 3) X.hx X.hb dX11_code_16 (by decide) ?_
  refine lv_aload_n X.hx X.hb dX11_code_17 rfl (lv_at hl 0 rfl) ?_
  refine gf_X11_431 X hP 0 rfl (v := .int (iY 43)) rfl dX11_code_18 ?_
  refine lv_imul X.hx X.hb dX11_code_21 ?_
  refine lv_iconst (v := 1) X.hx X.hb dX11_code_22 (by decide) ?_
  refine lv_iadd X.hx X.hb dX11_code_23 ?_
  refine lv_iload_n X.hx X.hb dX11_code_24 rfl (lv_at hl 2 rfl) ?_
  obtain ⟨hi_3, hf⟩ := ck_i hf
  obtain ⟨g_4, eg_4, hf⟩ := nv_i hf
  refine r_iast X hP hD hS 4 (f := g_2) rfl hi_3 (wo := (gY G uY iY (va_up sY 8 g_4) tY jY)) (by subst eg_4; rfl) dX11_code_25 (fun H locs hP hD hS => ?_)
  refine lv_aload_n X.hx X.hb dX11_code_26 rfl (lv_at hl 0 rfl) ?_
  refine gf_X11_40 X hP 0 rfl (v := .ref (uY 9)) rfl dX11_code_27 ?_
  refine lv_iconst (v := 3) X.hx X.hb dX11_code_30 (by decide) ?_
  refine lv_aload_n X.hx X.hb dX11_code_31 rfl (lv_at hl 0 rfl) ?_
  refine gf_X11_431 X hP 0 rfl (v := .int (iY 43)) rfl dX11_code_32 ?_
  refine lv_imul X.hx X.hb dX11_code_35 ?_
  refine lv_iconst (v := 2) X.hx X.hb dX11_code_36 (by decide) ?_
  refine lv_iadd X.hx X.hb dX11_code_37 ?_
  refine lv_iload_n X.hx X.hb dX11_code_38 rfl (lv_at hl 3 rfl) ?_
  obtain ⟨hi_5, hf⟩ := ck_i hf
  obtain ⟨g_6, eg_6, hf⟩ := nv_i hf
  refine r_iast X hP hD hS 4 (f := g_4) rfl hi_5 (wo := (gY G uY iY (va_up sY 8 g_6) tY jY)) (by subst eg_6; rfl) dX11_code_39 (fun H locs hP hD hS => ?_)
  refine lv_aload_n X.hx X.hb dX11_code_40 rfl (lv_at hl 0 rfl) ?_
  refine lv_dup X.hx X.hb dX11_code_41 rfl ?_
  refine gf_X11_431 X hP 0 rfl (v := .int (iY 43)) rfl dX11_code_42 ?_
  refine lv_iconst (v := 1) X.hx X.hb dX11_code_45 (by decide) ?_
  refine lv_iadd X.hx X.hb dX11_code_46 ?_
  refine pf_X11_431 X hP hD hS 0 rfl rfl rfl (Nat.le_of_ble_eq_true rfl) (wo := (gY G uY (va_up iY 43 ((iY 43) + 1)) (va_up sY 8 g_6) tY jY)) rfl dX11_code_47 (fun H locs hP hD hS => ?_)
  cases hf
  subst hQ
  exact r_vret X hP hD hS dX11_code_50

def f_X11_joins_0 (N : Nat) (tY : Nat → Nat → Int64) (jY : Nat → Int64) (v1 : Int32) : Nat → (Nat → Int32) → (Nat → Nat → Int32) → Option ((Nat → Int32) × (Nat → Nat → Int32))
  | 0, _, _ => none
  | k + 1, iY, sY => (if (iY 45) ≤ 0 then some (iY, sY) else ck ((iY 45) - 1) 45 (jn (fun (z : Unit) => match z with | () => ck ((iY 45) - 1) 45 (bd (f_X11_code N (va_up iY 45 ((iY 45) - 1)) sY tY jY ((sY 42) (ix ((iY 45) - 1))) 0 0) (fun (iY_23, sY_24) => f_X11_joins_0 N tY jY v1 k iY_23 sY_24))) (fun K_19 => (if ((sY 42) (ix ((iY 45) - 1))) = 21 then K_19 () else ck ((iY 45) - 1) 45 ((if ((sY 42) (ix ((iY 45) - 1))) = 22 then (if v1 = 22 then K_19 () else some (iY, sY)) else some (iY, sY)))))))
def f_X11_joins (N : Nat) (iY : Nat → Int32) (sY : Nat → Nat → Int32) (tY : Nat → Nat → Int64) (jY : Nat → Int64) (p1 : Int32) : Option ((Nat → Int32) × (Nat → Nat → Int32)) :=
  f_X11_joins_0 N tY jY p1 N iY sY
set_option maxHeartbeats 4000000 in
set_option maxRecDepth 100000 in
theorem c_X11_joins (l : Launch) (G : GT) (N : Nat) (uY : Nat → Nat) (iY : Nat → Int32) (sY : Nat → Nat → Int32) (tY : Nat → Nat → Int64) (jY : Nat → Int64) (p1 : Int32) {iY' : Nat → Int32} {sY' : Nat → Nat → Int32} (hf : f_X11_joins N iY sY tY jY p1 = some (iY', sY')) : CV l G yX11_joins cX11_joins 2 2 [.ref (uY 0), .int p1] (gY G uY iY sY tY jY) (gY G uY iY' sY' tY jY) := by
  refine CV.of (by decide) (Nat.le_of_ble_eq_true rfl) ?_
  intro p e s m args below meth c A X hA hP hD hS ls hl
  have hl : lv_has ls 2 [(0, .ref (uY 0)), (1, .int p1)] := hl
  generalize hQ : MQ below (QV G A (gY G uY iY' sY' tY jY)) args s 0 0 A = QQ
  unfold f_X11_joins at hf
  have hlo_1 : ∀ (k : Nat) (iY_2 : Nat → Int32) (sY_3 : Nat → Nat → Int32) (H : Heap) (locs : List Loc) (ls : Array Slot), f_X11_joins_0 N tY jY p1 k iY_2 sY_3 = some (iY', sY') → va_P G.1 vwCl (gY G uY iY_2 sY_3 tY jY) H → va_D A (gY G uY iY_2 sY_3 tY jY) → va_S A s.heap H locs → lv_has ls 2 [(0, .ref (uY 0)), (1, .int p1)] → W p l e (RM 2) s m args below meth c H locs 0 0 QQ (F0 m 0 ls []) := by
    intro k
    induction k with
    | zero => intro iY_2 sY_3 H locs ls hf; exact absurd hf (by intro q; cases q)
    | succ k ih =>
      intro iY_2 sY_3 H locs ls hf hP hD hS hl
      unfold f_X11_joins_0 at hf
      refine lv_aload_n X.hx X.hb dX11_joins_0 rfl (lv_at hl 0 rfl) ?_
      refine gf_X11_434 X hP 0 rfl (v := .int (iY_2 45)) rfl dX11_joins_1 ?_
      refine lv_if_le (tgt := 73) X.hx X.hb dX11_joins_4 (by decide) (fun hc_4 => ?_) (fun hc_4 => ?_)
      · replace hf := if_t hf hc_4
        cases hf
        subst hQ
        exact r_vret X hP hD hS dX11_joins_73
      · replace hf := if_f hf hc_4
        refine lv_aload_n X.hx X.hb dX11_joins_7 rfl (lv_at hl 0 rfl) ?_
        refine gf_X11_80 X hP 0 rfl (v := .ref (uY 43)) rfl dX11_joins_8 ?_
        refine lv_aload_n X.hx X.hb dX11_joins_11 rfl (lv_at hl 0 rfl) ?_
        refine gf_X11_434 X hP 0 rfl (v := .int (iY_2 45)) rfl dX11_joins_12 ?_
        refine lv_iconst (v := 1) X.hx X.hb dX11_joins_15 (by decide) ?_
        refine lv_isub X.hx X.hb dX11_joins_16 ?_
        obtain ⟨hi_5, hf⟩ := ck_i hf
        refine r_iald X hP 16 (f := (sY_3 42)) rfl hi_5 dX11_joins_17 ?_
        refine lv_bipush (v := 21) X.hx X.hb dX11_joins_18 (by decide) ?_
        obtain ⟨K_6, eK_8, hf⟩ := jn_i hf
        have hj_7 : ∀ (H : Heap) (locs : List Loc) (ls : Array Slot), K_6 () = some (iY', sY') → va_P G.1 vwCl (gY G uY iY_2 sY_3 tY jY) H → va_D A (gY G uY iY_2 sY_3 tY jY) → va_S A s.heap H locs → lv_has ls 2 [(0, .ref (uY 0)), (1, .int p1)] → W p l e (RM 2) s m args below meth c H locs 0 0 QQ (F0 m 45 ls []) := by
          intro  H locs ls hf hP hD hS hl
          rw [eK_8] at hf
          try dsimp only at hf
          refine lv_aload_n X.hx X.hb dX11_joins_45 rfl (lv_at hl 0 rfl) ?_
          refine lv_dup X.hx X.hb dX11_joins_46 rfl ?_
          refine gf_X11_434 X hP 0 rfl (v := .int (iY_2 45)) rfl dX11_joins_47 ?_
          refine lv_iconst (v := 1) X.hx X.hb dX11_joins_50 (by decide) ?_
          refine lv_isub X.hx X.hb dX11_joins_51 ?_
          refine pf_X11_434 X hP hD hS 0 rfl rfl rfl (Nat.le_of_ble_eq_true rfl) (wo := (gY G uY (va_up iY_2 45 ((iY_2 45) - 1)) sY_3 tY jY)) rfl dX11_joins_52 (fun H locs hP hD hS => ?_)
          refine lv_aload_n X.hx X.hb dX11_joins_55 rfl (lv_at hl 0 rfl) ?_
          refine lv_aload_n X.hx X.hb dX11_joins_56 rfl (lv_at hl 0 rfl) ?_
          refine gf_X11_80 X hP 0 rfl (v := .ref (uY 43)) rfl dX11_joins_57 ?_
          refine lv_aload_n X.hx X.hb dX11_joins_60 rfl (lv_at hl 0 rfl) ?_
          refine gf_X11_434 X hP 0 rfl (v := .int ((iY_2 45) - 1)) rfl dX11_joins_61 ?_
          obtain ⟨hi_9, hf⟩ := ck_i hf
          refine r_iald X hP 16 (f := (sY_3 42)) rfl hi_9 dX11_joins_64 ?_
          refine lv_iconst (v := 0) X.hx X.hb dX11_joins_65 (by decide) ?_
          refine lv_iconst (v := 0) X.hx X.hb dX11_joins_66 (by decide) ?_
          obtain ⟨⟨iY_10, sY_11⟩, hc_12, hf⟩ := bd_i hf
          refine r_cvv (As := [.int ((sY_3 42) (ix ((iY_2 45) - 1))), .int 0, .int 0]) (rest := []) X sm_X11_437 (c_X11_code l G N uY (va_up iY_2 45 ((iY_2 45) - 1)) sY_3 tY jY ((sY_3 42) (ix ((iY_2 45) - 1))) 0 0 hc_12) hP hD hS hA 0 rfl rfl [0, 1, 2, 3, 4, 5, 6, 7, 8, 9, 10, 11, 12, 13, 14, 15, 16, 17, 18, 19, 20] rfl rfl rfl (wo := (gY G uY iY_10 sY_11 tY jY)) rfl rfl hl.1 (lv_room (Nat.le_of_ble_eq_true rfl)) ⟨Nat.le_of_ble_eq_true rfl, Nat.le_of_ble_eq_true rfl⟩ ⟨Nat.zero_le _, Nat.zero_le _⟩ dX11_joins_67 (fun H locs hP hD hS => ?_)
          refine lv_goto (tgt := 0) X.hx X.hb dX11_joins_70 (by decide) ?_
          exact ih _ _ _ _ _ hf hP hD hS (lv_sub hl [0, 1] rfl)
        refine lv_icmp_eq (tgt := 45) X.hx X.hb dX11_joins_20 (by decide) (fun hc_13 => ?_) (fun hc_13 => ?_)
        · replace hf := if_t hf hc_13
          exact hj_7 _ _ _ hf hP hD hS (lv_sub hl [0, 1] rfl)
        · replace hf := if_f hf hc_13
          refine lv_aload_n X.hx X.hb dX11_joins_23 rfl (lv_at hl 0 rfl) ?_
          refine gf_X11_80 X hP 0 rfl (v := .ref (uY 43)) rfl dX11_joins_24 ?_
          refine lv_aload_n X.hx X.hb dX11_joins_27 rfl (lv_at hl 0 rfl) ?_
          refine gf_X11_434 X hP 0 rfl (v := .int (iY_2 45)) rfl dX11_joins_28 ?_
          refine lv_iconst (v := 1) X.hx X.hb dX11_joins_31 (by decide) ?_
          refine lv_isub X.hx X.hb dX11_joins_32 ?_
          obtain ⟨hi_14, hf⟩ := ck_i hf
          refine r_iald X hP 16 (f := (sY_3 42)) rfl hi_14 dX11_joins_33 ?_
          refine lv_bipush (v := 22) X.hx X.hb dX11_joins_34 (by decide) ?_
          refine lv_icmp_ne (tgt := 73) X.hx X.hb dX11_joins_36 (by decide) (fun hc_15 => ?_) (fun hc_15 => ?_)
          · replace hf := if_f hf hc_15
            cases hf
            subst hQ
            exact r_vret X hP hD hS dX11_joins_73
          · replace hf := if_t hf hc_15
            refine lv_iload_n X.hx X.hb dX11_joins_39 rfl (lv_at hl 1 rfl) ?_
            refine lv_bipush (v := 22) X.hx X.hb dX11_joins_40 (by decide) ?_
            refine lv_icmp_ne (tgt := 73) X.hx X.hb dX11_joins_42 (by decide) (fun hc_16 => ?_) (fun hc_16 => ?_)
            · replace hf := if_f hf hc_16
              cases hf
              subst hQ
              exact r_vret X hP hD hS dX11_joins_73
            · replace hf := if_t hf hc_16
              exact hj_7 _ _ _ hf hP hD hS (lv_sub hl [0, 1] rfl)
  exact hlo_1 N _ _ _ _ _ hf hP hD hS (lv_sub hl [0, 1] rfl)

def f_X11_nots_0 (N : Nat) (tY : Nat → Nat → Int64) (jY : Nat → Int64) : Nat → (Nat → Int32) → (Nat → Nat → Int32) → Option ((Nat → Int32) × (Nat → Nat → Int32))
  | 0, _, _ => none
  | k + 1, iY, sY => (if (iY 45) ≤ 0 then some (iY, sY) else ck ((iY 45) - 1) 45 ((if ((sY 42) (ix ((iY 45) - 1))) = 20 then bd (f_X11_code N (va_up (va_up iY 45 ((iY 45) - 1)) 46 ((iY 46) - 1)) sY tY jY 20 0 0) (fun (iY_13, sY_14) => f_X11_nots_0 N tY jY k iY_13 sY_14) else some (iY, sY))))
def f_X11_nots (N : Nat) (iY : Nat → Int32) (sY : Nat → Nat → Int32) (tY : Nat → Nat → Int64) (jY : Nat → Int64) : Option ((Nat → Int32) × (Nat → Nat → Int32)) :=
  f_X11_nots_0 N tY jY N iY sY
set_option maxHeartbeats 4000000 in
set_option maxRecDepth 100000 in
theorem c_X11_nots (l : Launch) (G : GT) (N : Nat) (uY : Nat → Nat) (iY : Nat → Int32) (sY : Nat → Nat → Int32) (tY : Nat → Nat → Int64) (jY : Nat → Int64) {iY' : Nat → Int32} {sY' : Nat → Nat → Int32} (hf : f_X11_nots N iY sY tY jY = some (iY', sY')) : CV l G yX11_nots cX11_nots 1 2 [.ref (uY 0)] (gY G uY iY sY tY jY) (gY G uY iY' sY' tY jY) := by
  refine CV.of (by decide) (Nat.le_of_ble_eq_true rfl) ?_
  intro p e s m args below meth c A X hA hP hD hS ls hl
  have hl : lv_has ls 1 [(0, .ref (uY 0))] := hl
  generalize hQ : MQ below (QV G A (gY G uY iY' sY' tY jY)) args s 0 0 A = QQ
  unfold f_X11_nots at hf
  have hlo_1 : ∀ (k : Nat) (iY_2 : Nat → Int32) (sY_3 : Nat → Nat → Int32) (H : Heap) (locs : List Loc) (ls : Array Slot), f_X11_nots_0 N tY jY k iY_2 sY_3 = some (iY', sY') → va_P G.1 vwCl (gY G uY iY_2 sY_3 tY jY) H → va_D A (gY G uY iY_2 sY_3 tY jY) → va_S A s.heap H locs → lv_has ls 1 [(0, .ref (uY 0))] → W p l e (RM 2) s m args below meth c H locs 0 0 QQ (F0 m 0 ls []) := by
    intro k
    induction k with
    | zero => intro iY_2 sY_3 H locs ls hf; exact absurd hf (by intro q; cases q)
    | succ k ih =>
      intro iY_2 sY_3 H locs ls hf hP hD hS hl
      unfold f_X11_nots_0 at hf
      refine lv_aload_n X.hx X.hb dX11_nots_0 rfl (lv_at hl 0 rfl) ?_
      refine gf_X11_434 X hP 0 rfl (v := .int (iY_2 45)) rfl dX11_nots_1 ?_
      refine lv_if_le (tgt := 54) X.hx X.hb dX11_nots_4 (by decide) (fun hc_4 => ?_) (fun hc_4 => ?_)
      · replace hf := if_t hf hc_4
        cases hf
        subst hQ
        exact r_vret X hP hD hS dX11_nots_54
      · replace hf := if_f hf hc_4
        refine lv_aload_n X.hx X.hb dX11_nots_7 rfl (lv_at hl 0 rfl) ?_
        refine gf_X11_80 X hP 0 rfl (v := .ref (uY 43)) rfl dX11_nots_8 ?_
        refine lv_aload_n X.hx X.hb dX11_nots_11 rfl (lv_at hl 0 rfl) ?_
        refine gf_X11_434 X hP 0 rfl (v := .int (iY_2 45)) rfl dX11_nots_12 ?_
        refine lv_iconst (v := 1) X.hx X.hb dX11_nots_15 (by decide) ?_
        refine lv_isub X.hx X.hb dX11_nots_16 ?_
        obtain ⟨hi_5, hf⟩ := ck_i hf
        refine r_iald X hP 16 (f := (sY_3 42)) rfl hi_5 dX11_nots_17 ?_
        refine lv_bipush (v := 20) X.hx X.hb dX11_nots_18 (by decide) ?_
        refine lv_icmp_ne (tgt := 54) X.hx X.hb dX11_nots_20 (by decide) (fun hc_6 => ?_) (fun hc_6 => ?_)
        · replace hf := if_f hf hc_6
          cases hf
          subst hQ
          exact r_vret X hP hD hS dX11_nots_54
        · replace hf := if_t hf hc_6
          refine lv_aload_n X.hx X.hb dX11_nots_23 rfl (lv_at hl 0 rfl) ?_
          refine lv_dup X.hx X.hb dX11_nots_24 rfl ?_
          refine gf_X11_434 X hP 0 rfl (v := .int (iY_2 45)) rfl dX11_nots_25 ?_
          refine lv_iconst (v := 1) X.hx X.hb dX11_nots_28 (by decide) ?_
          refine lv_isub X.hx X.hb dX11_nots_29 ?_
          refine pf_X11_434 X hP hD hS 0 rfl rfl rfl (Nat.le_of_ble_eq_true rfl) (wo := (gY G uY (va_up iY_2 45 ((iY_2 45) - 1)) sY_3 tY jY)) rfl dX11_nots_30 (fun H locs hP hD hS => ?_)
          refine lv_aload_n X.hx X.hb dX11_nots_33 rfl (lv_at hl 0 rfl) ?_
          refine lv_dup X.hx X.hb dX11_nots_34 rfl ?_
          refine gf_X11_440 X hP 0 rfl (v := .int (iY_2 46)) rfl dX11_nots_35 ?_
          refine lv_iconst (v := 1) X.hx X.hb dX11_nots_38 (by decide) ?_
          refine lv_isub X.hx X.hb dX11_nots_39 ?_
          refine pf_X11_440 X hP hD hS 0 rfl rfl rfl (Nat.le_of_ble_eq_true rfl) (wo := (gY G uY (va_up (va_up iY_2 45 ((iY_2 45) - 1)) 46 ((iY_2 46) - 1)) sY_3 tY jY)) rfl dX11_nots_40 (fun H locs hP hD hS => ?_)
          refine lv_aload_n X.hx X.hb dX11_nots_43 rfl (lv_at hl 0 rfl) ?_
          refine lv_bipush (v := 20) X.hx X.hb dX11_nots_44 (by decide) ?_
          refine lv_iconst (v := 0) X.hx X.hb dX11_nots_46 (by decide) ?_
          refine lv_iconst (v := 0) X.hx X.hb dX11_nots_47 (by decide) ?_
          obtain ⟨⟨iY_7, sY_8⟩, hc_9, hf⟩ := bd_i hf
          refine r_cvv (As := [.int 20, .int 0, .int 0]) (rest := []) X sm_X11_437 (c_X11_code l G N uY (va_up (va_up iY_2 45 ((iY_2 45) - 1)) 46 ((iY_2 46) - 1)) sY_3 tY jY 20 0 0 hc_9) hP hD hS hA 0 rfl rfl [0, 1, 2, 3, 4, 5, 6, 7, 8, 9, 10, 11, 12, 13, 14, 15, 16, 17, 18, 19, 20] rfl rfl rfl (wo := (gY G uY iY_7 sY_8 tY jY)) rfl rfl hl.1 (lv_room (Nat.le_of_ble_eq_true rfl)) ⟨Nat.le_of_ble_eq_true rfl, Nat.le_of_ble_eq_true rfl⟩ ⟨Nat.zero_le _, Nat.zero_le _⟩ dX11_nots_48 (fun H locs hP hD hS => ?_)
          refine lv_goto (tgt := 0) X.hx X.hb dX11_nots_51 (by decide) ?_
          exact ih _ _ _ _ _ hf hP hD hS (lv_sub hl [0] rfl)
  exact hlo_1 N _ _ _ _ _ hf hP hD hS (lv_sub hl [0] rfl)

def f_X11_leafOf (N : Nat) (iY : Nat → Int32) (sY : Nat → Nat → Int32) (tY : Nat → Nat → Int64) (jY : Nat → Int64) : Option (Int32) :=
  bd (f_X11_isWord N iY sY tY jY 1752132965) (fun r_1 => (if r_1 = 0 then bd (f_X11_isWord N iY sY tY jY 130177932485988) (fun r_4 => (if r_4 = 0 then bd (f_X11_isWord N iY sY tY jY 6710628) (fun r_7 => (if r_7 = 0 then bd (f_X11_isWord N iY sY tY jY 1936682084) (fun r_10 => (if r_10 = 0 then bd (f_X11_isWord N iY sY tY jY 461414299507) (fun r_13 => (if r_13 = 0 then bd (f_X11_isWord N iY sY tY jY 512735736947) (fun r_16 => (if r_16 = 0 then bd (f_X11_isWord N iY sY tY jY 427070942835) (fun r_19 => (if r_19 = 0 then bd (f_X11_isWord N iY sY tY jY 28836244623352947) (fun r_22 => (if r_22 = 0 then bd (f_X11_isWord N iY sY tY jY 114853572732274) (fun r_25 => (if r_25 = 0 then bd (f_X11_isWord N iY sY tY jY 121450625394034) (fun r_28 => (if r_28 = 0 then some (-1) else some 9)) else some 8)) else some 7)) else some 6)) else some 5)) else some 4)) else some 3)) else some 2)) else some 1)) else some 0))
set_option maxHeartbeats 4000000 in
set_option maxRecDepth 100000 in
theorem c_X11_leafOf (l : Launch) (G : GT) (N : Nat) (uY : Nat → Nat) (iY : Nat → Int32) (sY : Nat → Nat → Int32) (tY : Nat → Nat → Int64) (jY : Nat → Int64) {r : Int32} (hf : f_X11_leafOf N iY sY tY jY = some r) : CI l G yX11_leafOf cX11_leafOf 1 .int 2 [.ref (uY 0)] (gY G uY iY sY tY jY) r (gY G uY iY sY tY jY) := by
  refine CI.of (by decide) (Nat.le_of_ble_eq_true rfl) ?_
  intro p e s m args below meth c A X hA hP hD hS ls hl
  have hl : lv_has ls 1 [(0, .ref (uY 0))] := hl
  generalize hQ : MQ below (QI G A r (gY G uY iY sY tY jY)) args s 0 0 A = QQ
  unfold f_X11_leafOf at hf
  refine lv_aload_n X.hx X.hb dX11_leafOf_0 rfl (lv_at hl 0 rfl) ?_
  refine lv_ldc2 (v := 1752132965) X.hx X.hb X.hown (X.hts _ tw_1302) dX11_leafOf_1 ?_
  obtain ⟨r_1, hc_2, hf⟩ := bd_i hf
  refine r_cvi (As := [.long 1752132965]) (rest := []) X sm_X11_220 (c_X11_isWord l G N uY iY sY tY jY 1752132965 hc_2) hP hD hS hA 0 rfl rfl [0, 1, 2, 3, 4, 5, 6, 7, 8, 9, 10, 11, 12, 13, 14, 15, 16, 17, 18, 19, 20] rfl rfl rfl (wo := (gY G uY iY sY tY jY)) rfl rfl hl.1 (lv_room (Nat.le_of_ble_eq_true rfl)) ⟨Nat.le_of_ble_eq_true rfl, Nat.le_of_ble_eq_true rfl⟩ ⟨Nat.zero_le _, Nat.zero_le _⟩ dX11_leafOf_4 (fun H locs hP hD hS => ?_)
  refine lv_if_eq (tgt := 14) X.hx X.hb dX11_leafOf_7 (by decide) (fun hc_3 => ?_) (fun hc_3 => ?_)
  · replace hf := if_t hf hc_3
    refine lv_aload_n X.hx X.hb dX11_leafOf_14 rfl (lv_at hl 0 rfl) ?_
    refine lv_ldc2 (v := 130177932485988) X.hx X.hb X.hown (X.hts _ tw_1303) dX11_leafOf_15 ?_
    obtain ⟨r_4, hc_5, hf⟩ := bd_i hf
    refine r_cvi (As := [.long 130177932485988]) (rest := []) X sm_X11_220 (c_X11_isWord l G N uY iY sY tY jY 130177932485988 hc_5) hP hD hS hA 0 rfl rfl [0, 1, 2, 3, 4, 5, 6, 7, 8, 9, 10, 11, 12, 13, 14, 15, 16, 17, 18, 19, 20] rfl rfl rfl (wo := (gY G uY iY sY tY jY)) rfl rfl hl.1 (lv_room (Nat.le_of_ble_eq_true rfl)) ⟨Nat.le_of_ble_eq_true rfl, Nat.le_of_ble_eq_true rfl⟩ ⟨Nat.zero_le _, Nat.zero_le _⟩ dX11_leafOf_18 (fun H locs hP hD hS => ?_)
    refine lv_if_eq (tgt := 28) X.hx X.hb dX11_leafOf_21 (by decide) (fun hc_6 => ?_) (fun hc_6 => ?_)
    · replace hf := if_t hf hc_6
      refine lv_aload_n X.hx X.hb dX11_leafOf_28 rfl (lv_at hl 0 rfl) ?_
      refine lv_ldc2 (v := 6710628) X.hx X.hb X.hown (X.hts _ tw_1304) dX11_leafOf_29 ?_
      obtain ⟨r_7, hc_8, hf⟩ := bd_i hf
      refine r_cvi (As := [.long 6710628]) (rest := []) X sm_X11_220 (c_X11_isWord l G N uY iY sY tY jY 6710628 hc_8) hP hD hS hA 0 rfl rfl [0, 1, 2, 3, 4, 5, 6, 7, 8, 9, 10, 11, 12, 13, 14, 15, 16, 17, 18, 19, 20] rfl rfl rfl (wo := (gY G uY iY sY tY jY)) rfl rfl hl.1 (lv_room (Nat.le_of_ble_eq_true rfl)) ⟨Nat.le_of_ble_eq_true rfl, Nat.le_of_ble_eq_true rfl⟩ ⟨Nat.zero_le _, Nat.zero_le _⟩ dX11_leafOf_32 (fun H locs hP hD hS => ?_)
      refine lv_if_eq (tgt := 42) X.hx X.hb dX11_leafOf_35 (by decide) (fun hc_9 => ?_) (fun hc_9 => ?_)
      · replace hf := if_t hf hc_9
        refine lv_aload_n X.hx X.hb dX11_leafOf_42 rfl (lv_at hl 0 rfl) ?_
        refine lv_ldc2 (v := 1936682084) X.hx X.hb X.hown (X.hts _ tw_1305) dX11_leafOf_43 ?_
        obtain ⟨r_10, hc_11, hf⟩ := bd_i hf
        refine r_cvi (As := [.long 1936682084]) (rest := []) X sm_X11_220 (c_X11_isWord l G N uY iY sY tY jY 1936682084 hc_11) hP hD hS hA 0 rfl rfl [0, 1, 2, 3, 4, 5, 6, 7, 8, 9, 10, 11, 12, 13, 14, 15, 16, 17, 18, 19, 20] rfl rfl rfl (wo := (gY G uY iY sY tY jY)) rfl rfl hl.1 (lv_room (Nat.le_of_ble_eq_true rfl)) ⟨Nat.le_of_ble_eq_true rfl, Nat.le_of_ble_eq_true rfl⟩ ⟨Nat.zero_le _, Nat.zero_le _⟩ dX11_leafOf_46 (fun H locs hP hD hS => ?_)
        refine lv_if_eq (tgt := 56) X.hx X.hb dX11_leafOf_49 (by decide) (fun hc_12 => ?_) (fun hc_12 => ?_)
        · replace hf := if_t hf hc_12
          refine lv_aload_n X.hx X.hb dX11_leafOf_56 rfl (lv_at hl 0 rfl) ?_
          refine lv_ldc2 (v := 461414299507) X.hx X.hb X.hown (X.hts _ tw_1290) dX11_leafOf_57 ?_
          obtain ⟨r_13, hc_14, hf⟩ := bd_i hf
          refine r_cvi (As := [.long 461414299507]) (rest := []) X sm_X11_220 (c_X11_isWord l G N uY iY sY tY jY 461414299507 hc_14) hP hD hS hA 0 rfl rfl [0, 1, 2, 3, 4, 5, 6, 7, 8, 9, 10, 11, 12, 13, 14, 15, 16, 17, 18, 19, 20] rfl rfl rfl (wo := (gY G uY iY sY tY jY)) rfl rfl hl.1 (lv_room (Nat.le_of_ble_eq_true rfl)) ⟨Nat.le_of_ble_eq_true rfl, Nat.le_of_ble_eq_true rfl⟩ ⟨Nat.zero_le _, Nat.zero_le _⟩ dX11_leafOf_60 (fun H locs hP hD hS => ?_)
          refine lv_if_eq (tgt := 70) X.hx X.hb dX11_leafOf_63 (by decide) (fun hc_15 => ?_) (fun hc_15 => ?_)
          · replace hf := if_t hf hc_15
            refine lv_aload_n X.hx X.hb dX11_leafOf_70 rfl (lv_at hl 0 rfl) ?_
            refine lv_ldc2 (v := 512735736947) X.hx X.hb X.hown (X.hts _ tw_1289) dX11_leafOf_71 ?_
            obtain ⟨r_16, hc_17, hf⟩ := bd_i hf
            refine r_cvi (As := [.long 512735736947]) (rest := []) X sm_X11_220 (c_X11_isWord l G N uY iY sY tY jY 512735736947 hc_17) hP hD hS hA 0 rfl rfl [0, 1, 2, 3, 4, 5, 6, 7, 8, 9, 10, 11, 12, 13, 14, 15, 16, 17, 18, 19, 20] rfl rfl rfl (wo := (gY G uY iY sY tY jY)) rfl rfl hl.1 (lv_room (Nat.le_of_ble_eq_true rfl)) ⟨Nat.le_of_ble_eq_true rfl, Nat.le_of_ble_eq_true rfl⟩ ⟨Nat.zero_le _, Nat.zero_le _⟩ dX11_leafOf_74 (fun H locs hP hD hS => ?_)
            refine lv_if_eq (tgt := 84) X.hx X.hb dX11_leafOf_77 (by decide) (fun hc_18 => ?_) (fun hc_18 => ?_)
            · replace hf := if_t hf hc_18
              refine lv_aload_n X.hx X.hb dX11_leafOf_84 rfl (lv_at hl 0 rfl) ?_
              refine lv_ldc2 (v := 427070942835) X.hx X.hb X.hown (X.hts _ tw_1306) dX11_leafOf_85 ?_
              obtain ⟨r_19, hc_20, hf⟩ := bd_i hf
              refine r_cvi (As := [.long 427070942835]) (rest := []) X sm_X11_220 (c_X11_isWord l G N uY iY sY tY jY 427070942835 hc_20) hP hD hS hA 0 rfl rfl [0, 1, 2, 3, 4, 5, 6, 7, 8, 9, 10, 11, 12, 13, 14, 15, 16, 17, 18, 19, 20] rfl rfl rfl (wo := (gY G uY iY sY tY jY)) rfl rfl hl.1 (lv_room (Nat.le_of_ble_eq_true rfl)) ⟨Nat.le_of_ble_eq_true rfl, Nat.le_of_ble_eq_true rfl⟩ ⟨Nat.zero_le _, Nat.zero_le _⟩ dX11_leafOf_88 (fun H locs hP hD hS => ?_)
              refine lv_if_eq (tgt := 99) X.hx X.hb dX11_leafOf_91 (by decide) (fun hc_21 => ?_) (fun hc_21 => ?_)
              · replace hf := if_t hf hc_21
                refine lv_aload_n X.hx X.hb dX11_leafOf_99 rfl (lv_at hl 0 rfl) ?_
                refine lv_ldc2 (v := 28836244623352947) X.hx X.hb X.hown (X.hts _ tw_1307) dX11_leafOf_100 ?_
                obtain ⟨r_22, hc_23, hf⟩ := bd_i hf
                refine r_cvi (As := [.long 28836244623352947]) (rest := []) X sm_X11_220 (c_X11_isWord l G N uY iY sY tY jY 28836244623352947 hc_23) hP hD hS hA 0 rfl rfl [0, 1, 2, 3, 4, 5, 6, 7, 8, 9, 10, 11, 12, 13, 14, 15, 16, 17, 18, 19, 20] rfl rfl rfl (wo := (gY G uY iY sY tY jY)) rfl rfl hl.1 (lv_room (Nat.le_of_ble_eq_true rfl)) ⟨Nat.le_of_ble_eq_true rfl, Nat.le_of_ble_eq_true rfl⟩ ⟨Nat.zero_le _, Nat.zero_le _⟩ dX11_leafOf_103 (fun H locs hP hD hS => ?_)
                refine lv_if_eq (tgt := 114) X.hx X.hb dX11_leafOf_106 (by decide) (fun hc_24 => ?_) (fun hc_24 => ?_)
                · replace hf := if_t hf hc_24
                  refine lv_aload_n X.hx X.hb dX11_leafOf_114 rfl (lv_at hl 0 rfl) ?_
                  refine lv_ldc2 (v := 114853572732274) X.hx X.hb X.hown (X.hts _ tw_1308) dX11_leafOf_115 ?_
                  obtain ⟨r_25, hc_26, hf⟩ := bd_i hf
                  refine r_cvi (As := [.long 114853572732274]) (rest := []) X sm_X11_220 (c_X11_isWord l G N uY iY sY tY jY 114853572732274 hc_26) hP hD hS hA 0 rfl rfl [0, 1, 2, 3, 4, 5, 6, 7, 8, 9, 10, 11, 12, 13, 14, 15, 16, 17, 18, 19, 20] rfl rfl rfl (wo := (gY G uY iY sY tY jY)) rfl rfl hl.1 (lv_room (Nat.le_of_ble_eq_true rfl)) ⟨Nat.le_of_ble_eq_true rfl, Nat.le_of_ble_eq_true rfl⟩ ⟨Nat.zero_le _, Nat.zero_le _⟩ dX11_leafOf_118 (fun H locs hP hD hS => ?_)
                  refine lv_if_eq (tgt := 129) X.hx X.hb dX11_leafOf_121 (by decide) (fun hc_27 => ?_) (fun hc_27 => ?_)
                  · replace hf := if_t hf hc_27
                    refine lv_aload_n X.hx X.hb dX11_leafOf_129 rfl (lv_at hl 0 rfl) ?_
                    refine lv_ldc2 (v := 121450625394034) X.hx X.hb X.hown (X.hts _ tw_1309) dX11_leafOf_130 ?_
                    obtain ⟨r_28, hc_29, hf⟩ := bd_i hf
                    refine r_cvi (As := [.long 121450625394034]) (rest := []) X sm_X11_220 (c_X11_isWord l G N uY iY sY tY jY 121450625394034 hc_29) hP hD hS hA 0 rfl rfl [0, 1, 2, 3, 4, 5, 6, 7, 8, 9, 10, 11, 12, 13, 14, 15, 16, 17, 18, 19, 20] rfl rfl rfl (wo := (gY G uY iY sY tY jY)) rfl rfl hl.1 (lv_room (Nat.le_of_ble_eq_true rfl)) ⟨Nat.le_of_ble_eq_true rfl, Nat.le_of_ble_eq_true rfl⟩ ⟨Nat.zero_le _, Nat.zero_le _⟩ dX11_leafOf_133 (fun H locs hP hD hS => ?_)
                    refine lv_if_eq (tgt := 144) X.hx X.hb dX11_leafOf_136 (by decide) (fun hc_30 => ?_) (fun hc_30 => ?_)
                    · replace hf := if_t hf hc_30
                      refine lv_iconst (v := (-1)) X.hx X.hb dX11_leafOf_144 (by decide) ?_
                      cases hf
                      subst hQ
                      exact r_iret X hP hD hS dX11_leafOf_145
                    · replace hf := if_f hf hc_30
                      refine lv_bipush (v := 9) X.hx X.hb dX11_leafOf_139 (by decide) ?_
                      refine lv_goto (tgt := 145) X.hx X.hb dX11_leafOf_141 (by decide) ?_
                      cases hf
                      subst hQ
                      exact r_iret X hP hD hS dX11_leafOf_145
                  · replace hf := if_f hf hc_27
                    refine lv_bipush (v := 8) X.hx X.hb dX11_leafOf_124 (by decide) ?_
                    refine lv_goto (tgt := 145) X.hx X.hb dX11_leafOf_126 (by decide) ?_
                    cases hf
                    subst hQ
                    exact r_iret X hP hD hS dX11_leafOf_145
                · replace hf := if_f hf hc_24
                  refine lv_bipush (v := 7) X.hx X.hb dX11_leafOf_109 (by decide) ?_
                  refine lv_goto (tgt := 145) X.hx X.hb dX11_leafOf_111 (by decide) ?_
                  cases hf
                  subst hQ
                  exact r_iret X hP hD hS dX11_leafOf_145
              · replace hf := if_f hf hc_21
                refine lv_bipush (v := 6) X.hx X.hb dX11_leafOf_94 (by decide) ?_
                refine lv_goto (tgt := 145) X.hx X.hb dX11_leafOf_96 (by decide) ?_
                cases hf
                subst hQ
                exact r_iret X hP hD hS dX11_leafOf_145
            · replace hf := if_f hf hc_18
              refine lv_iconst (v := 5) X.hx X.hb dX11_leafOf_80 (by decide) ?_
              refine lv_goto (tgt := 145) X.hx X.hb dX11_leafOf_81 (by decide) ?_
              cases hf
              subst hQ
              exact r_iret X hP hD hS dX11_leafOf_145
          · replace hf := if_f hf hc_15
            refine lv_iconst (v := 4) X.hx X.hb dX11_leafOf_66 (by decide) ?_
            refine lv_goto (tgt := 145) X.hx X.hb dX11_leafOf_67 (by decide) ?_
            cases hf
            subst hQ
            exact r_iret X hP hD hS dX11_leafOf_145
        · replace hf := if_f hf hc_12
          refine lv_iconst (v := 3) X.hx X.hb dX11_leafOf_52 (by decide) ?_
          refine lv_goto (tgt := 145) X.hx X.hb dX11_leafOf_53 (by decide) ?_
          cases hf
          subst hQ
          exact r_iret X hP hD hS dX11_leafOf_145
      · replace hf := if_f hf hc_9
        refine lv_iconst (v := 2) X.hx X.hb dX11_leafOf_38 (by decide) ?_
        refine lv_goto (tgt := 145) X.hx X.hb dX11_leafOf_39 (by decide) ?_
        cases hf
        subst hQ
        exact r_iret X hP hD hS dX11_leafOf_145
    · replace hf := if_f hf hc_6
      refine lv_iconst (v := 1) X.hx X.hb dX11_leafOf_24 (by decide) ?_
      refine lv_goto (tgt := 145) X.hx X.hb dX11_leafOf_25 (by decide) ?_
      cases hf
      subst hQ
      exact r_iret X hP hD hS dX11_leafOf_145
  · replace hf := if_f hf hc_3
    refine lv_iconst (v := 0) X.hx X.hb dX11_leafOf_10 (by decide) ?_
    refine lv_goto (tgt := 145) X.hx X.hb dX11_leafOf_11 (by decide) ?_
    cases hf
    subst hQ
    exact r_iret X hP hD hS dX11_leafOf_145

def f_X11_operand (N : Nat) (iY : Nat → Int32) (sY : Nat → Nat → Int32) (tY : Nat → Nat → Int64) (jY : Nat → Int64) : Option (Int32 × (Nat → Int32) × (Nat → Nat → Int32) × (Nat → Int64)) :=
  bd (f_X11_isWord N iY sY tY jY 7237492) (fun r_1 => bd (f_X11_isSign N iY sY tY jY 40) (fun r_3 => bd (f_X11_leafOf N iY sY tY jY) (fun r_5 => jn (fun (z : Unit) => match z with | () => jn (fun (z : Unit) => match z with | () => bd (f_X11_bad N iY sY tY jY 4) (fun (r_13, iY_14) => zb r_13 (some (r_13, iY_14, sY, jY)))) (fun K_10 => (if (iY 44) = 20 then K_10 () else (if (iY 46) ≤ 8 then bd (f_X11_next N (va_up iY 44 ((iY 44) + 1)) sY tY jY) (fun (iY_19, jY_20) => jn (fun (z : Unit) => match z with | () => jn (fun (z : (Int32)) => match z with | y_28 => ck (iY_19 45) 45 (nv (upd (sY 42) (ix (iY_19 45)) y_28) (fun g_30 => some (1, (va_up (va_up iY_19 45 ((iY_19 45) + 1)) 46 ((iY_19 46) + 1)), (va_up sY 42 g_30), jY_20)))) (fun K_25 => (if r_1 = 0 then K_25 23 else K_25 20))) (fun K_22 => (if r_1 = 0 then (if r_3 = 0 then (if (4 : Int32) ≤ r_5 then (if (6 : Int32) ≤ r_5 then jn (fun (z : Unit) => match z with | () => bd (f_X11_bad N (va_up iY_19 47 1) sY tY jY_20 1) (fun (r_39, iY_40) => zb r_39 (some (r_39, iY_40, sY, jY_20)))) (fun K_36 => (if (iY_19 11) = 3 then (if (iY_19 14) < 60 then K_36 () else (if (iY_19 14) ≤ 62 then bd (f_X11_next N (va_up iY_19 47 1) sY tY jY_20) (fun (iY_46, jY_47) => (if (iY_46 11) = 2 then bd (f_X11_code N iY_46 sY tY jY_47 r_5 (iY_19 14) (iY_46 14)) (fun (iY_50, sY_51) => bd (f_X11_next N iY_50 sY_51 tY jY_47) (fun (iY_53, jY_54) => some (1, iY_53, sY_51, jY_54))) else bd (f_X11_bad N iY_46 sY tY jY_47 1) (fun (r_56, iY_57) => zb r_56 (some (r_56, iY_57, sY, jY_47))))) else K_36 ())) else K_36 ())) else jn (fun (z : (Int32) × (Nat → Int32)) => match z with | (y_63, iY_64) => (if y_63 = 0 then some (0, iY_64, sY, jY_20) else bd (f_X11_code N iY_64 sY tY jY_20 r_5 0 (iY_64 18)) (fun (iY_66, sY_67) => bd (f_X11_next N iY_66 sY_67 tY jY_20) (fun (iY_69, jY_70) => some (1, iY_69, sY_67, jY_70))))) (fun K_60 => (if r_5 = 4 then bd (f_X11_looksAt N (va_up iY_19 47 1) sY tY jY_20 0 ((sY 6) 0)) (fun (r_76, iY_77) => K_60 (r_76, iY_77)) else bd (f_X11_looksAt N (va_up iY_19 47 1) sY tY jY_20 7 ((sY 6) 1)) (fun (r_73, iY_74) => K_60 (r_73, iY_74))))) else bd (f_X11_code N (va_up iY_19 47 1) sY tY jY_20 r_5 0 0) (fun (iY_79, sY_80) => some (1, iY_79, sY_80, jY_20))) else K_22 ()) else K_22 ()))) else K_10 ())))) (fun K_7 => (if r_1 = 0 then (if r_3 = 0 then (if (0 : Int32) ≤ r_5 then K_7 () else bd (f_X11_bad N iY sY tY jY 1) (fun (r_85, iY_86) => zb r_85 (some (r_85, iY_86, sY, jY)))) else K_7 ()) else K_7 ())))))
set_option maxHeartbeats 4000000 in
set_option maxRecDepth 100000 in
theorem c_X11_operand (l : Launch) (G : GT) (N : Nat) (uY : Nat → Nat) (iY : Nat → Int32) (sY : Nat → Nat → Int32) (tY : Nat → Nat → Int64) (jY : Nat → Int64) {r : Int32} {iY' : Nat → Int32} {sY' : Nat → Nat → Int32} {jY' : Nat → Int64} (hf : f_X11_operand N iY sY tY jY = some (r, iY', sY', jY')) : CI l G yX11_operand cX11_operand 5 .boolean 3 [.ref (uY 0)] (gY G uY iY sY tY jY) r (gY G uY iY' sY' tY jY') := by
  refine CI.of (by decide) (Nat.le_of_ble_eq_true rfl) ?_
  intro p e s m args below meth c A X hA hP hD hS ls hl
  have hl : lv_has ls 5 [(0, .ref (uY 0))] := hl
  generalize hQ : MQ below (QI G A r (gY G uY iY' sY' tY jY')) args s 0 0 A = QQ
  unfold f_X11_operand at hf
  refine lv_aload_n X.hx X.hb dX11_operand_0 rfl (lv_at hl 0 rfl) ?_
  refine lv_ldc2 (v := 7237492) X.hx X.hb X.hown (X.hts _ tw_1301) dX11_operand_1 ?_
  obtain ⟨r_1, hc_2, hf⟩ := bd_i hf
  refine r_cvi (As := [.long 7237492]) (rest := []) X sm_X11_220 (c_X11_isWord l G N uY iY sY tY jY 7237492 hc_2) hP hD hS hA 0 rfl rfl [0, 1, 2, 3, 4, 5, 6, 7, 8, 9, 10, 11, 12, 13, 14, 15, 16, 17, 18, 19, 20] rfl rfl rfl (wo := (gY G uY iY sY tY jY)) rfl rfl hl.1 (lv_room (Nat.le_of_ble_eq_true rfl)) ⟨Nat.le_of_ble_eq_true rfl, Nat.le_of_ble_eq_true rfl⟩ ⟨Nat.zero_le _, Nat.zero_le _⟩ dX11_operand_4 (fun H locs hP hD hS => ?_)
  refine lv_istore_n (lv' := [(1, .int r_1), (0, .ref (uY 0))]) X.hx X.hb dX11_operand_7 rfl hl (by decide) rfl (fun ls hl => ?_)
  refine lv_aload_n X.hx X.hb dX11_operand_8 rfl (lv_at hl 1 rfl) ?_
  refine lv_bipush (v := 40) X.hx X.hb dX11_operand_9 (by decide) ?_
  obtain ⟨r_3, hc_4, hf⟩ := bd_i hf
  refine r_cvi (As := [.int 40]) (rest := []) X sm_X11_180 (c_X11_isSign l G N uY iY sY tY jY 40 hc_4) hP hD hS hA 0 rfl rfl [0, 1, 2, 3, 4, 5, 6, 7, 8, 9, 10, 11, 12, 13, 14, 15, 16, 17, 18, 19, 20] rfl rfl rfl (wo := (gY G uY iY sY tY jY)) rfl rfl hl.1 (lv_room (Nat.le_of_ble_eq_true rfl)) ⟨Nat.le_of_ble_eq_true rfl, Nat.le_of_ble_eq_true rfl⟩ ⟨Nat.zero_le _, Nat.zero_le _⟩ dX11_operand_11 (fun H locs hP hD hS => ?_)
  refine lv_istore_n (lv' := [(2, .int r_3), (1, .int r_1), (0, .ref (uY 0))]) X.hx X.hb dX11_operand_14 rfl hl (by decide) rfl (fun ls hl => ?_)
  refine lv_aload_n X.hx X.hb dX11_operand_15 rfl (lv_at hl 2 rfl) ?_
  obtain ⟨r_5, hc_6, hf⟩ := bd_i hf
  refine r_cvi (As := []) (rest := []) X sm_X11_443 (c_X11_leafOf l G N uY iY sY tY jY hc_6) hP hD hS hA 0 rfl rfl [0, 1, 2, 3, 4, 5, 6, 7, 8, 9, 10, 11, 12, 13, 14, 15, 16, 17, 18, 19, 20] rfl rfl rfl (wo := (gY G uY iY sY tY jY)) rfl rfl hl.1 (lv_room (Nat.le_of_ble_eq_true rfl)) ⟨Nat.le_of_ble_eq_true rfl, Nat.le_of_ble_eq_true rfl⟩ ⟨Nat.zero_le _, Nat.zero_le _⟩ dX11_operand_16 (fun H locs hP hD hS => ?_)
  refine lv_istore_n (lv' := [(3, .int r_5), (2, .int r_3), (1, .int r_1), (0, .ref (uY 0))]) X.hx X.hb dX11_operand_19 rfl hl (by decide) rfl (fun ls hl => ?_)
  refine lv_iload_n X.hx X.hb dX11_operand_20 rfl (lv_at hl 2 rfl) ?_
  obtain ⟨K_7, eK_9, hf⟩ := jn_i hf
  have hj_8 : ∀ (H : Heap) (locs : List Loc) (ls : Array Slot), K_7 () = some (r, iY', sY', jY') → va_P G.1 vwCl (gY G uY iY sY tY jY) H → va_D A (gY G uY iY sY tY jY) → va_S A s.heap H locs → lv_has ls 5 [(0, .ref (uY 0)), (1, .int r_1), (2, .int r_3), (3, .int r_5)] → W p l e (RM 3) s m args below meth c H locs 0 0 QQ (F0 m 38 ls []) := by
    intro  H locs ls hf hP hD hS hl
    rw [eK_9] at hf
    try dsimp only at hf
    refine lv_aload_n X.hx X.hb dX11_operand_38 rfl (lv_at hl 0 rfl) ?_
    refine gf_X11_446 X hP 0 rfl (v := .int (iY 44)) rfl dX11_operand_39 ?_
    refine lv_bipush (v := 20) X.hx X.hb dX11_operand_42 (by decide) ?_
    obtain ⟨K_10, eK_12, hf⟩ := jn_i hf
    have hj_11 : ∀ (H : Heap) (locs : List Loc) (ls : Array Slot), K_10 () = some (r, iY', sY', jY') → va_P G.1 vwCl (gY G uY iY sY tY jY) H → va_D A (gY G uY iY sY tY jY) → va_S A s.heap H locs → lv_has ls 5 [(0, .ref (uY 0))] → W p l e (RM 3) s m args below meth c H locs 0 0 QQ (F0 m 56 ls []) := by
      intro  H locs ls hf hP hD hS hl
      rw [eK_12] at hf
      try dsimp only at hf
      refine lv_aload_n X.hx X.hb dX11_operand_56 rfl (lv_at hl 0 rfl) ?_
      refine lv_iconst (v := 4) X.hx X.hb dX11_operand_57 (by decide) ?_
      obtain ⟨⟨r_13, iY_14⟩, hc_15, hf⟩ := bd_i hf
      refine r_cvi (As := [.int 4]) (rest := []) X sm_X11_183 (c_X11_bad l G N uY iY sY tY jY 4 hc_15) hP hD hS hA 0 rfl rfl [0, 1, 2, 3, 4, 5, 6, 7, 8, 9, 10, 11, 12, 13, 14, 15, 16, 17, 18, 19, 20] rfl rfl rfl (wo := (gY G uY iY_14 sY tY jY)) rfl rfl hl.1 (lv_room (Nat.le_of_ble_eq_true rfl)) ⟨Nat.le_of_ble_eq_true rfl, Nat.le_of_ble_eq_true rfl⟩ ⟨Nat.zero_le _, Nat.zero_le _⟩ dX11_operand_58 (fun H locs hP hD hS => ?_)
      obtain ⟨hb_16, hf⟩ := zb_i hf
      cases hf
      subst hQ
      exact r_zret X hP hD hS hb_16 dX11_operand_61
    refine lv_icmp_eq (tgt := 56) X.hx X.hb dX11_operand_44 (by decide) (fun hc_17 => ?_) (fun hc_17 => ?_)
    · replace hf := if_t hf hc_17
      exact hj_11 _ _ _ hf hP hD hS (lv_sub hl [0] rfl)
    · replace hf := if_f hf hc_17
      refine lv_aload_n X.hx X.hb dX11_operand_47 rfl (lv_at hl 0 rfl) ?_
      refine gf_X11_440 X hP 0 rfl (v := .int (iY 46)) rfl dX11_operand_48 ?_
      refine lv_bipush (v := 8) X.hx X.hb dX11_operand_51 (by decide) ?_
      refine lv_icmp_le (tgt := 62) X.hx X.hb dX11_operand_53 (by decide) (fun hc_18 => ?_) (fun hc_18 => ?_)
      · replace hf := if_t hf hc_18
        refine lv_aload_n X.hx X.hb dX11_operand_62 rfl (lv_at hl 0 rfl) ?_
        refine lv_dup X.hx X.hb dX11_operand_63 rfl ?_
        refine gf_X11_446 X hP 0 rfl (v := .int (iY 44)) rfl dX11_operand_64 ?_
        refine lv_iconst (v := 1) X.hx X.hb dX11_operand_67 (by decide) ?_
        refine lv_iadd X.hx X.hb dX11_operand_68 ?_
        refine pf_X11_446 X hP hD hS 0 rfl rfl rfl (Nat.le_of_ble_eq_true rfl) (wo := (gY G uY (va_up iY 44 ((iY 44) + 1)) sY tY jY)) rfl dX11_operand_69 (fun H locs hP hD hS => ?_)
        refine lv_aload_n X.hx X.hb dX11_operand_72 rfl (lv_at hl 0 rfl) ?_
        obtain ⟨⟨iY_19, jY_20⟩, hc_21, hf⟩ := bd_i hf
        refine r_cvv (As := []) (rest := []) X sm_X11_186 (c_X11_next l G N uY (va_up iY 44 ((iY 44) + 1)) sY tY jY hc_21) hP hD hS hA 0 rfl rfl [0, 1, 2, 3, 4, 5, 6, 7, 8, 9, 10, 11, 12, 13, 14, 15, 16, 17, 18, 19, 20] rfl rfl rfl (wo := (gY G uY iY_19 sY tY jY_20)) rfl rfl hl.1 (lv_room (Nat.le_of_ble_eq_true rfl)) ⟨Nat.le_of_ble_eq_true rfl, Nat.le_of_ble_eq_true rfl⟩ ⟨Nat.zero_le _, Nat.zero_le _⟩ dX11_operand_73 (fun H locs hP hD hS => ?_)
        refine lv_iload_n X.hx X.hb dX11_operand_76 rfl (lv_at hl 1 rfl) ?_
        obtain ⟨K_22, eK_24, hf⟩ := jn_i hf
        have hj_23 : ∀ (H : Heap) (locs : List Loc) (ls : Array Slot), K_22 () = some (r, iY', sY', jY') → va_P G.1 vwCl (gY G uY iY_19 sY tY jY_20) H → va_D A (gY G uY iY_19 sY tY jY_20) → va_S A s.heap H locs → lv_has ls 5 [(0, .ref (uY 0)), (1, .int r_1)] → W p l e (RM 3) s m args below meth c H locs 0 0 QQ (F0 m 84 ls []) := by
          intro  H locs ls hf hP hD hS hl
          rw [eK_24] at hf
          try dsimp only at hf
          refine lv_aload_n X.hx X.hb dX11_operand_84 rfl (lv_at hl 0 rfl) ?_
          refine gf_X11_80 X hP 0 rfl (v := .ref (uY 43)) rfl dX11_operand_85 ?_
          refine lv_aload_n X.hx X.hb dX11_operand_88 rfl (lv_at hl 0 rfl) ?_
          refine gf_X11_434 X hP 0 rfl (v := .int (iY_19 45)) rfl dX11_operand_89 ?_
          refine lv_iload_n X.hx X.hb dX11_operand_92 rfl (lv_at hl 1 rfl) ?_
          obtain ⟨K_25, eK_27, hf⟩ := jn_i hf
          have hj_26 : ∀ (y_28 : Int32) (H : Heap) (locs : List Loc) (ls : Array Slot), K_25 y_28 = some (r, iY', sY', jY') → va_P G.1 vwCl (gY G uY iY_19 sY tY jY_20) H → va_D A (gY G uY iY_19 sY tY jY_20) → va_S A s.heap H locs → lv_has ls 5 [(0, .ref (uY 0))] → W p l e (RM 3) s m args below meth c H locs 0 0 QQ (F0 m 103 ls [.int y_28, .int (iY_19 45), .ref (uY 43)]) := by
            intro y_28 H locs ls hf hP hD hS hl
            rw [eK_27] at hf
            try dsimp only at hf
            obtain ⟨hi_29, hf⟩ := ck_i hf
            obtain ⟨g_30, eg_30, hf⟩ := nv_i hf
            refine r_iast X hP hD hS 16 (f := (sY 42)) rfl hi_29 (wo := (gY G uY iY_19 (va_up sY 42 g_30) tY jY_20)) (by subst eg_30; rfl) dX11_operand_103 (fun H locs hP hD hS => ?_)
            refine lv_aload_n X.hx X.hb dX11_operand_104 rfl (lv_at hl 0 rfl) ?_
            refine lv_dup X.hx X.hb dX11_operand_105 rfl ?_
            refine gf_X11_434 X hP 0 rfl (v := .int (iY_19 45)) rfl dX11_operand_106 ?_
            refine lv_iconst (v := 1) X.hx X.hb dX11_operand_109 (by decide) ?_
            refine lv_iadd X.hx X.hb dX11_operand_110 ?_
            refine pf_X11_434 X hP hD hS 0 rfl rfl rfl (Nat.le_of_ble_eq_true rfl) (wo := (gY G uY (va_up iY_19 45 ((iY_19 45) + 1)) (va_up sY 42 g_30) tY jY_20)) rfl dX11_operand_111 (fun H locs hP hD hS => ?_)
            refine lv_aload_n X.hx X.hb dX11_operand_114 rfl (lv_at hl 0 rfl) ?_
            refine lv_dup X.hx X.hb dX11_operand_115 rfl ?_
            refine gf_X11_440 X hP 0 rfl (v := .int (iY_19 46)) rfl dX11_operand_116 ?_
            refine lv_iconst (v := 1) X.hx X.hb dX11_operand_119 (by decide) ?_
            refine lv_iadd X.hx X.hb dX11_operand_120 ?_
            refine pf_X11_440 X hP hD hS 0 rfl rfl rfl (Nat.le_of_ble_eq_true rfl) (wo := (gY G uY (va_up (va_up iY_19 45 ((iY_19 45) + 1)) 46 ((iY_19 46) + 1)) (va_up sY 42 g_30) tY jY_20)) rfl dX11_operand_121 (fun H locs hP hD hS => ?_)
            refine lv_iconst (v := 1) X.hx X.hb dX11_operand_124 (by decide) ?_
            cases hf
            subst hQ
            exact r_zret X hP hD hS (by decide) dX11_operand_125
          refine lv_if_eq (tgt := 101) X.hx X.hb dX11_operand_93 (by decide) (fun hc_31 => ?_) (fun hc_31 => ?_)
          · replace hf := if_t hf hc_31
            refine lv_bipush (v := 23) X.hx X.hb dX11_operand_101 (by decide) ?_
            exact hj_26 _ _ _ _ hf hP hD hS (lv_sub hl [0] rfl)
          · replace hf := if_f hf hc_31
            refine lv_bipush (v := 20) X.hx X.hb dX11_operand_96 (by decide) ?_
            refine lv_goto (tgt := 103) X.hx X.hb dX11_operand_98 (by decide) ?_
            exact hj_26 _ _ _ _ hf hP hD hS (lv_sub hl [0] rfl)
        refine lv_if_ne (tgt := 84) X.hx X.hb dX11_operand_77 (by decide) (fun hc_32 => ?_) (fun hc_32 => ?_)
        · replace hf := if_f hf hc_32
          exact hj_23 _ _ _ hf hP hD hS (lv_sub hl [0, 1] rfl)
        · replace hf := if_t hf hc_32
          refine lv_iload_n X.hx X.hb dX11_operand_80 rfl (lv_at hl 2 rfl) ?_
          refine lv_if_eq (tgt := 126) X.hx X.hb dX11_operand_81 (by decide) (fun hc_33 => ?_) (fun hc_33 => ?_)
          · replace hf := if_t hf hc_33
            refine lv_aload_n X.hx X.hb dX11_operand_126 rfl (lv_at hl 0 rfl) ?_
            refine lv_iconst (v := 1) X.hx X.hb dX11_operand_127 (by decide) ?_
            refine pf_X11_449 X hP hD hS 0 rfl (by decide) (by decide) (Nat.le_of_ble_eq_true rfl) (wo := (gY G uY (va_up iY_19 47 1) sY tY jY_20)) rfl dX11_operand_128 (fun H locs hP hD hS => ?_)
            refine lv_iload_n X.hx X.hb dX11_operand_131 rfl (lv_at hl 3 rfl) ?_
            refine lv_iconst (v := 4) X.hx X.hb dX11_operand_132 (by decide) ?_
            refine lv_icmp_ge (tgt := 145) X.hx X.hb dX11_operand_133 (by decide) (fun hc_34 => ?_) (fun hc_34 => ?_)
            · replace hf := if_t hf hc_34
              refine lv_iload_n X.hx X.hb dX11_operand_145 rfl (lv_at hl 3 rfl) ?_
              refine lv_bipush (v := 6) X.hx X.hb dX11_operand_146 (by decide) ?_
              refine lv_icmp_ge (tgt := 207) X.hx X.hb dX11_operand_148 (by decide) (fun hc_35 => ?_) (fun hc_35 => ?_)
              · replace hf := if_t hf hc_35
                refine lv_aload_n X.hx X.hb dX11_operand_207 rfl (lv_at hl 0 rfl) ?_
                refine gf_X11_157 X hP 0 rfl (v := .int (iY_19 11)) rfl dX11_operand_208 ?_
                refine lv_iconst (v := 3) X.hx X.hb dX11_operand_211 (by decide) ?_
                obtain ⟨K_36, eK_38, hf⟩ := jn_i hf
                have hj_37 : ∀ (H : Heap) (locs : List Loc) (ls : Array Slot), K_36 () = some (r, iY', sY', jY') → va_P G.1 vwCl (gY G uY (va_up iY_19 47 1) sY tY jY_20) H → va_D A (gY G uY (va_up iY_19 47 1) sY tY jY_20) → va_S A s.heap H locs → lv_has ls 5 [(0, .ref (uY 0))] → W p l e (RM 3) s m args below meth c H locs 0 0 QQ (F0 m 233 ls []) := by
                  intro  H locs ls hf hP hD hS hl
                  rw [eK_38] at hf
                  try dsimp only at hf
                  refine lv_aload_n X.hx X.hb dX11_operand_233 rfl (lv_at hl 0 rfl) ?_
                  refine lv_iconst (v := 1) X.hx X.hb dX11_operand_234 (by decide) ?_
                  obtain ⟨⟨r_39, iY_40⟩, hc_41, hf⟩ := bd_i hf
                  refine r_cvi (As := [.int 1]) (rest := []) X sm_X11_183 (c_X11_bad l G N uY (va_up iY_19 47 1) sY tY jY_20 1 hc_41) hP hD hS hA 0 rfl rfl [0, 1, 2, 3, 4, 5, 6, 7, 8, 9, 10, 11, 12, 13, 14, 15, 16, 17, 18, 19, 20] rfl rfl rfl (wo := (gY G uY iY_40 sY tY jY_20)) rfl rfl hl.1 (lv_room (Nat.le_of_ble_eq_true rfl)) ⟨Nat.le_of_ble_eq_true rfl, Nat.le_of_ble_eq_true rfl⟩ ⟨Nat.zero_le _, Nat.zero_le _⟩ dX11_operand_235 (fun H locs hP hD hS => ?_)
                  obtain ⟨hb_42, hf⟩ := zb_i hf
                  cases hf
                  subst hQ
                  exact r_zret X hP hD hS hb_42 dX11_operand_238
                refine lv_icmp_ne (tgt := 233) X.hx X.hb dX11_operand_212 (by decide) (fun hc_43 => ?_) (fun hc_43 => ?_)
                · replace hf := if_f hf hc_43
                  exact hj_37 _ _ _ hf hP hD hS (lv_sub hl [0] rfl)
                · replace hf := if_t hf hc_43
                  refine lv_aload_n X.hx X.hb dX11_operand_215 rfl (lv_at hl 0 rfl) ?_
                  refine gf_X11_167 X hP 0 rfl (v := .int (iY_19 14)) rfl dX11_operand_216 ?_
                  refine lv_bipush (v := 60) X.hx X.hb dX11_operand_219 (by decide) ?_
                  refine lv_icmp_lt (tgt := 233) X.hx X.hb dX11_operand_221 (by decide) (fun hc_44 => ?_) (fun hc_44 => ?_)
                  · replace hf := if_t hf hc_44
                    exact hj_37 _ _ _ hf hP hD hS (lv_sub hl [0] rfl)
                  · replace hf := if_f hf hc_44
                    refine lv_aload_n X.hx X.hb dX11_operand_224 rfl (lv_at hl 0 rfl) ?_
                    refine gf_X11_167 X hP 0 rfl (v := .int (iY_19 14)) rfl dX11_operand_225 ?_
                    refine lv_bipush (v := 62) X.hx X.hb dX11_operand_228 (by decide) ?_
                    refine lv_icmp_le (tgt := 239) X.hx X.hb dX11_operand_230 (by decide) (fun hc_45 => ?_) (fun hc_45 => ?_)
                    · replace hf := if_t hf hc_45
                      refine lv_aload_n X.hx X.hb dX11_operand_239 rfl (lv_at hl 0 rfl) ?_
                      refine gf_X11_167 X hP 0 rfl (v := .int (iY_19 14)) rfl dX11_operand_240 ?_
                      refine lv_istore (lv' := [(4, .int (iY_19 14)), (0, .ref (uY 0)), (1, .int r_1), (2, .int r_3), (3, .int r_5)]) X.hx X.hb dX11_operand_243 hl (by decide) rfl (fun ls hl => ?_)
                      refine lv_aload_n X.hx X.hb dX11_operand_245 rfl (lv_at hl 1 rfl) ?_
                      obtain ⟨⟨iY_46, jY_47⟩, hc_48, hf⟩ := bd_i hf
                      refine r_cvv (As := []) (rest := []) X sm_X11_186 (c_X11_next l G N uY (va_up iY_19 47 1) sY tY jY_20 hc_48) hP hD hS hA 0 rfl rfl [0, 1, 2, 3, 4, 5, 6, 7, 8, 9, 10, 11, 12, 13, 14, 15, 16, 17, 18, 19, 20] rfl rfl rfl (wo := (gY G uY iY_46 sY tY jY_47)) rfl rfl hl.1 (lv_room (Nat.le_of_ble_eq_true rfl)) ⟨Nat.le_of_ble_eq_true rfl, Nat.le_of_ble_eq_true rfl⟩ ⟨Nat.zero_le _, Nat.zero_le _⟩ dX11_operand_246 (fun H locs hP hD hS => ?_)
                      refine lv_aload_n X.hx X.hb dX11_operand_249 rfl (lv_at hl 1 rfl) ?_
                      refine gf_X11_157 X hP 0 rfl (v := .int (iY_46 11)) rfl dX11_operand_250 ?_
                      refine lv_iconst (v := 2) X.hx X.hb dX11_operand_253 (by decide) ?_
                      refine lv_icmp_eq (tgt := 263) X.hx X.hb dX11_operand_254 (by decide) (fun hc_49 => ?_) (fun hc_49 => ?_)
                      · replace hf := if_t hf hc_49
                        refine lv_aload_n X.hx X.hb dX11_operand_263 rfl (lv_at hl 1 rfl) ?_
                        refine lv_iload_n X.hx X.hb dX11_operand_264 rfl (lv_at hl 4 rfl) ?_
                        refine lv_iload X.hx X.hb dX11_operand_265 (lv_at hl 0 rfl) ?_
                        refine lv_aload_n X.hx X.hb dX11_operand_267 rfl (lv_at hl 1 rfl) ?_
                        refine gf_X11_167 X hP 0 rfl (v := .int (iY_46 14)) rfl dX11_operand_268 ?_
                        obtain ⟨⟨iY_50, sY_51⟩, hc_52, hf⟩ := bd_i hf
                        refine r_cvv (As := [.int r_5, .int (iY_19 14), .int (iY_46 14)]) (rest := []) X sm_X11_437 (c_X11_code l G N uY iY_46 sY tY jY_47 r_5 (iY_19 14) (iY_46 14) hc_52) hP hD hS hA 0 rfl rfl [0, 1, 2, 3, 4, 5, 6, 7, 8, 9, 10, 11, 12, 13, 14, 15, 16, 17, 18, 19, 20] rfl rfl rfl (wo := (gY G uY iY_50 sY_51 tY jY_47)) rfl rfl hl.1 (lv_room (Nat.le_of_ble_eq_true rfl)) ⟨Nat.le_of_ble_eq_true rfl, Nat.le_of_ble_eq_true rfl⟩ ⟨Nat.zero_le _, Nat.zero_le _⟩ dX11_operand_271 (fun H locs hP hD hS => ?_)
                        refine lv_aload_n X.hx X.hb dX11_operand_274 rfl (lv_at hl 1 rfl) ?_
                        obtain ⟨⟨iY_53, jY_54⟩, hc_55, hf⟩ := bd_i hf
                        refine r_cvv (As := []) (rest := []) X sm_X11_186 (c_X11_next l G N uY iY_50 sY_51 tY jY_47 hc_55) hP hD hS hA 0 rfl rfl [0, 1, 2, 3, 4, 5, 6, 7, 8, 9, 10, 11, 12, 13, 14, 15, 16, 17, 18, 19, 20] rfl rfl rfl (wo := (gY G uY iY_53 sY_51 tY jY_54)) rfl rfl hl.1 (lv_room (Nat.le_of_ble_eq_true rfl)) ⟨Nat.le_of_ble_eq_true rfl, Nat.le_of_ble_eq_true rfl⟩ ⟨Nat.zero_le _, Nat.zero_le _⟩ dX11_operand_275 (fun H locs hP hD hS => ?_)
                        refine lv_iconst (v := 1) X.hx X.hb dX11_operand_278 (by decide) ?_
                        cases hf
                        subst hQ
                        exact r_zret X hP hD hS (by decide) dX11_operand_279
                      · replace hf := if_f hf hc_49
                        refine lv_aload_n X.hx X.hb dX11_operand_257 rfl (lv_at hl 1 rfl) ?_
                        refine lv_iconst (v := 1) X.hx X.hb dX11_operand_258 (by decide) ?_
                        obtain ⟨⟨r_56, iY_57⟩, hc_58, hf⟩ := bd_i hf
                        refine r_cvi (As := [.int 1]) (rest := []) X sm_X11_183 (c_X11_bad l G N uY iY_46 sY tY jY_47 1 hc_58) hP hD hS hA 0 rfl rfl [0, 1, 2, 3, 4, 5, 6, 7, 8, 9, 10, 11, 12, 13, 14, 15, 16, 17, 18, 19, 20] rfl rfl rfl (wo := (gY G uY iY_57 sY tY jY_47)) rfl rfl hl.1 (lv_room (Nat.le_of_ble_eq_true rfl)) ⟨Nat.le_of_ble_eq_true rfl, Nat.le_of_ble_eq_true rfl⟩ ⟨Nat.zero_le _, Nat.zero_le _⟩ dX11_operand_259 (fun H locs hP hD hS => ?_)
                        obtain ⟨hb_59, hf⟩ := zb_i hf
                        cases hf
                        subst hQ
                        exact r_zret X hP hD hS hb_59 dX11_operand_262
                    · replace hf := if_f hf hc_45
                      exact hj_37 _ _ _ hf hP hD hS (lv_sub hl [0] rfl)
              · replace hf := if_f hf hc_35
                refine lv_iload_n X.hx X.hb dX11_operand_151 rfl (lv_at hl 3 rfl) ?_
                refine lv_iconst (v := 4) X.hx X.hb dX11_operand_152 (by decide) ?_
                obtain ⟨K_60, eK_62, hf⟩ := jn_i hf
                have hj_61 : ∀ (y_63 : Int32) (iY_64 : Nat → Int32) (H : Heap) (locs : List Loc) (ls : Array Slot), K_60 (y_63, iY_64) = some (r, iY', sY', jY') → va_P G.1 vwCl (gY G uY iY_64 sY tY jY_20) H → va_D A (gY G uY iY_64 sY tY jY_20) → va_S A s.heap H locs → lv_has ls 5 [(0, .ref (uY 0)), (3, .int r_5)] → W p l e (RM 3) s m args below meth c H locs 0 0 QQ (F0 m 182 ls [.int y_63]) := by
                  intro y_63 iY_64 H locs ls hf hP hD hS hl
                  rw [eK_62] at hf
                  try dsimp only at hf
                  refine lv_istore (lv' := [(4, .int y_63), (0, .ref (uY 0)), (3, .int r_5)]) X.hx X.hb dX11_operand_182 hl (by decide) rfl (fun ls hl => ?_)
                  refine lv_iload X.hx X.hb dX11_operand_184 (lv_at hl 0 rfl) ?_
                  refine lv_if_ne (tgt := 191) X.hx X.hb dX11_operand_186 (by decide) (fun hc_65 => ?_) (fun hc_65 => ?_)
                  · replace hf := if_f hf hc_65
                    refine lv_aload_n X.hx X.hb dX11_operand_191 rfl (lv_at hl 1 rfl) ?_
                    refine lv_iload_n X.hx X.hb dX11_operand_192 rfl (lv_at hl 2 rfl) ?_
                    refine lv_iconst (v := 0) X.hx X.hb dX11_operand_193 (by decide) ?_
                    refine lv_aload_n X.hx X.hb dX11_operand_194 rfl (lv_at hl 1 rfl) ?_
                    refine gf_X11_193 X hP 0 rfl (v := .int (iY_64 18)) rfl dX11_operand_195 ?_
                    obtain ⟨⟨iY_66, sY_67⟩, hc_68, hf⟩ := bd_i hf
                    refine r_cvv (As := [.int r_5, .int 0, .int (iY_64 18)]) (rest := []) X sm_X11_437 (c_X11_code l G N uY iY_64 sY tY jY_20 r_5 0 (iY_64 18) hc_68) hP hD hS hA 0 rfl rfl [0, 1, 2, 3, 4, 5, 6, 7, 8, 9, 10, 11, 12, 13, 14, 15, 16, 17, 18, 19, 20] rfl rfl rfl (wo := (gY G uY iY_66 sY_67 tY jY_20)) rfl rfl hl.1 (lv_room (Nat.le_of_ble_eq_true rfl)) ⟨Nat.le_of_ble_eq_true rfl, Nat.le_of_ble_eq_true rfl⟩ ⟨Nat.zero_le _, Nat.zero_le _⟩ dX11_operand_198 (fun H locs hP hD hS => ?_)
                    refine lv_aload_n X.hx X.hb dX11_operand_201 rfl (lv_at hl 1 rfl) ?_
                    obtain ⟨⟨iY_69, jY_70⟩, hc_71, hf⟩ := bd_i hf
                    refine r_cvv (As := []) (rest := []) X sm_X11_186 (c_X11_next l G N uY iY_66 sY_67 tY jY_20 hc_71) hP hD hS hA 0 rfl rfl [0, 1, 2, 3, 4, 5, 6, 7, 8, 9, 10, 11, 12, 13, 14, 15, 16, 17, 18, 19, 20] rfl rfl rfl (wo := (gY G uY iY_69 sY_67 tY jY_70)) rfl rfl hl.1 (lv_room (Nat.le_of_ble_eq_true rfl)) ⟨Nat.le_of_ble_eq_true rfl, Nat.le_of_ble_eq_true rfl⟩ ⟨Nat.zero_le _, Nat.zero_le _⟩ dX11_operand_202 (fun H locs hP hD hS => ?_)
                    refine lv_iconst (v := 1) X.hx X.hb dX11_operand_205 (by decide) ?_
                    cases hf
                    subst hQ
                    exact r_zret X hP hD hS (by decide) dX11_operand_206
                  · replace hf := if_t hf hc_65
                    refine lv_iconst (v := 0) X.hx X.hb dX11_operand_189 (by decide) ?_
                    cases hf
                    subst hQ
                    exact r_zret X hP hD hS (by decide) dX11_operand_190
                refine lv_icmp_ne (tgt := 170) X.hx X.hb dX11_operand_153 (by decide) (fun hc_72 => ?_) (fun hc_72 => ?_)
                · replace hf := if_f hf hc_72
                  refine lv_aload_n X.hx X.hb dX11_operand_170 rfl (lv_at hl 0 rfl) ?_
                  refine lv_bipush (v := 7) X.hx X.hb dX11_operand_171 (by decide) ?_
                  refine lv_aload_n X.hx X.hb dX11_operand_173 rfl (lv_at hl 0 rfl) ?_
                  refine gf_X11_33 X hP 0 rfl (v := .ref (uY 7)) rfl dX11_operand_174 ?_
                  refine lv_iconst (v := 1) X.hx X.hb dX11_operand_177 (by decide) ?_
                  refine r_iald X hP 2 (f := (sY 6)) rfl (vp_c rfl) dX11_operand_178 ?_
                  refine W.eq (g2 := F0 m 179 ls [.int ((sY 6) 1), .int 7, .ref (uY 0)]) rfl ?_
                  obtain ⟨⟨r_73, iY_74⟩, hc_75, hf⟩ := bd_i hf
                  refine r_cvi (As := [.int 7, .int ((sY 6) 1)]) (rest := []) X sm_X11_208 (c_X11_looksAt l G N uY (va_up iY_19 47 1) sY tY jY_20 7 ((sY 6) 1) hc_75) hP hD hS hA 0 rfl rfl [0, 1, 2, 3, 4, 5, 6, 7, 8, 9, 10, 11, 12, 13, 14, 15, 16, 17, 18, 19, 20] rfl rfl rfl (wo := (gY G uY iY_74 sY tY jY_20)) rfl rfl hl.1 (lv_room (Nat.le_of_ble_eq_true rfl)) ⟨Nat.le_of_ble_eq_true rfl, Nat.le_of_ble_eq_true rfl⟩ ⟨Nat.zero_le _, Nat.zero_le _⟩ dX11_operand_179 (fun H locs hP hD hS => ?_)
                  exact hj_61 _ _ _ _ _ hf hP hD hS (lv_sub hl [0, 3] rfl)
                · replace hf := if_t hf hc_72
                  refine lv_aload_n X.hx X.hb dX11_operand_156 rfl (lv_at hl 0 rfl) ?_
                  refine lv_iconst (v := 0) X.hx X.hb dX11_operand_157 (by decide) ?_
                  refine lv_aload_n X.hx X.hb dX11_operand_158 rfl (lv_at hl 0 rfl) ?_
                  refine gf_X11_33 X hP 0 rfl (v := .ref (uY 7)) rfl dX11_operand_159 ?_
                  refine lv_iconst (v := 0) X.hx X.hb dX11_operand_162 (by decide) ?_
                  refine r_iald X hP 2 (f := (sY 6)) rfl (vp_c rfl) dX11_operand_163 ?_
                  refine W.eq (g2 := F0 m 164 ls [.int ((sY 6) 0), .int 0, .ref (uY 0)]) rfl ?_
                  obtain ⟨⟨r_76, iY_77⟩, hc_78, hf⟩ := bd_i hf
                  refine r_cvi (As := [.int 0, .int ((sY 6) 0)]) (rest := []) X sm_X11_208 (c_X11_looksAt l G N uY (va_up iY_19 47 1) sY tY jY_20 0 ((sY 6) 0) hc_78) hP hD hS hA 0 rfl rfl [0, 1, 2, 3, 4, 5, 6, 7, 8, 9, 10, 11, 12, 13, 14, 15, 16, 17, 18, 19, 20] rfl rfl rfl (wo := (gY G uY iY_77 sY tY jY_20)) rfl rfl hl.1 (lv_room (Nat.le_of_ble_eq_true rfl)) ⟨Nat.le_of_ble_eq_true rfl, Nat.le_of_ble_eq_true rfl⟩ ⟨Nat.zero_le _, Nat.zero_le _⟩ dX11_operand_164 (fun H locs hP hD hS => ?_)
                  refine lv_goto (tgt := 182) X.hx X.hb dX11_operand_167 (by decide) ?_
                  exact hj_61 _ _ _ _ _ hf hP hD hS (lv_sub hl [0, 3] rfl)
            · replace hf := if_f hf hc_34
              refine lv_aload_n X.hx X.hb dX11_operand_136 rfl (lv_at hl 0 rfl) ?_
              refine lv_iload_n X.hx X.hb dX11_operand_137 rfl (lv_at hl 3 rfl) ?_
              refine lv_iconst (v := 0) X.hx X.hb dX11_operand_138 (by decide) ?_
              refine lv_iconst (v := 0) X.hx X.hb dX11_operand_139 (by decide) ?_
              obtain ⟨⟨iY_79, sY_80⟩, hc_81, hf⟩ := bd_i hf
              refine r_cvv (As := [.int r_5, .int 0, .int 0]) (rest := []) X sm_X11_437 (c_X11_code l G N uY (va_up iY_19 47 1) sY tY jY_20 r_5 0 0 hc_81) hP hD hS hA 0 rfl rfl [0, 1, 2, 3, 4, 5, 6, 7, 8, 9, 10, 11, 12, 13, 14, 15, 16, 17, 18, 19, 20] rfl rfl rfl (wo := (gY G uY iY_79 sY_80 tY jY_20)) rfl rfl hl.1 (lv_room (Nat.le_of_ble_eq_true rfl)) ⟨Nat.le_of_ble_eq_true rfl, Nat.le_of_ble_eq_true rfl⟩ ⟨Nat.zero_le _, Nat.zero_le _⟩ dX11_operand_140 (fun H locs hP hD hS => ?_)
              refine lv_iconst (v := 1) X.hx X.hb dX11_operand_143 (by decide) ?_
              cases hf
              subst hQ
              exact r_zret X hP hD hS (by decide) dX11_operand_144
          · replace hf := if_f hf hc_33
            exact hj_23 _ _ _ hf hP hD hS (lv_sub hl [0, 1] rfl)
      · replace hf := if_f hf hc_18
        exact hj_11 _ _ _ hf hP hD hS (lv_sub hl [0] rfl)
  refine lv_if_ne (tgt := 38) X.hx X.hb dX11_operand_21 (by decide) (fun hc_82 => ?_) (fun hc_82 => ?_)
  · replace hf := if_f hf hc_82
    exact hj_8 _ _ _ hf hP hD hS (lv_sub hl [3, 2, 1, 0] rfl)
  · replace hf := if_t hf hc_82
    refine lv_iload_n X.hx X.hb dX11_operand_24 rfl (lv_at hl 1 rfl) ?_
    refine lv_if_ne (tgt := 38) X.hx X.hb dX11_operand_25 (by decide) (fun hc_83 => ?_) (fun hc_83 => ?_)
    · replace hf := if_f hf hc_83
      exact hj_8 _ _ _ hf hP hD hS (lv_sub hl [3, 2, 1, 0] rfl)
    · replace hf := if_t hf hc_83
      refine lv_iload_n X.hx X.hb dX11_operand_28 rfl (lv_at hl 0 rfl) ?_
      refine lv_if_ge (tgt := 38) X.hx X.hb dX11_operand_29 (by decide) (fun hc_84 => ?_) (fun hc_84 => ?_)
      · replace hf := if_t hf hc_84
        exact hj_8 _ _ _ hf hP hD hS (lv_sub hl [3, 2, 1, 0] rfl)
      · replace hf := if_f hf hc_84
        refine lv_aload_n X.hx X.hb dX11_operand_32 rfl (lv_at hl 3 rfl) ?_
        refine lv_iconst (v := 1) X.hx X.hb dX11_operand_33 (by decide) ?_
        obtain ⟨⟨r_85, iY_86⟩, hc_87, hf⟩ := bd_i hf
        refine r_cvi (As := [.int 1]) (rest := []) X sm_X11_183 (c_X11_bad l G N uY iY sY tY jY 1 hc_87) hP hD hS hA 0 rfl rfl [0, 1, 2, 3, 4, 5, 6, 7, 8, 9, 10, 11, 12, 13, 14, 15, 16, 17, 18, 19, 20] rfl rfl rfl (wo := (gY G uY iY_86 sY tY jY)) rfl rfl hl.1 (lv_room (Nat.le_of_ble_eq_true rfl)) ⟨Nat.le_of_ble_eq_true rfl, Nat.le_of_ble_eq_true rfl⟩ ⟨Nat.zero_le _, Nat.zero_le _⟩ dX11_operand_34 (fun H locs hP hD hS => ?_)
        obtain ⟨hb_88, hf⟩ := zb_i hf
        cases hf
        subst hQ
        exact r_zret X hP hD hS hb_88 dX11_operand_37

def f_X11_behind (N : Nat) (iY : Nat → Int32) (sY : Nat → Nat → Int32) (tY : Nat → Nat → Int64) (jY : Nat → Int64) : Option (Int32 × (Nat → Int32) × (Nat → Nat → Int32) × (Nat → Int64)) :=
  bd (f_X11_nots N iY sY tY jY) (fun (iY_1, sY_2) => bd (f_X11_isWord N iY_1 sY_2 tY jY 6385252) (fun r_4 => jn (fun (z : Unit) => match z with | () => bd (f_X11_isWord N iY_1 sY_2 tY jY 6385252) (fun r_9 => jn (fun (z : (Int32)) => match z with | y_14 => bd (f_X11_joins N iY_1 sY_2 tY jY y_14) (fun (iY_15, sY_16) => bd (f_X11_isWord N iY_15 sY_16 tY jY 6385252) (fun r_18 => jn (fun (z : (Int32)) => match z with | y_23 => ck (iY_15 45) 45 (nv (upd (sY_16 42) (ix (iY_15 45)) y_23) (fun g_25 => bd (f_X11_next N (va_up (va_up iY_15 45 ((iY_15 45) + 1)) 47 0) (va_up sY_16 42 g_25) tY jY) (fun (iY_26, jY_27) => some (1, iY_26, (va_up sY_16 42 g_25), jY_27))))) (fun K_20 => (if r_18 = 0 then K_20 22 else K_20 21))))) (fun K_11 => (if r_9 = 0 then K_11 22 else K_11 21)))) (fun K_6 => (if r_4 = 0 then bd (f_X11_isWord N iY_1 sY_2 tY jY 28530) (fun r_32 => (if r_32 = 0 then bd (f_X11_joins N iY_1 sY_2 tY jY 22) (fun (iY_35, sY_36) => bd (f_X11_isSign N iY_35 sY_36 tY jY 41) (fun r_38 => jn (fun (z : Unit) => match z with | () => bd (f_X11_bad N iY_35 sY_36 tY jY 1) (fun (r_43, iY_44) => zb r_43 (some (r_43, iY_44, sY_36, jY)))) (fun K_40 => (if r_38 = 0 then K_40 () else (if (iY_35 45) = 0 then K_40 () else bd (f_X11_next N (va_up (va_up iY_35 45 ((iY_35 45) - 1)) 46 ((iY_35 46) - 1)) sY_36 tY jY) (fun (iY_49, jY_50) => some (1, iY_49, sY_36, jY_50))))))) else K_6 ())) else K_6 ()))))
set_option maxHeartbeats 4000000 in
set_option maxRecDepth 100000 in
theorem c_X11_behind (l : Launch) (G : GT) (N : Nat) (uY : Nat → Nat) (iY : Nat → Int32) (sY : Nat → Nat → Int32) (tY : Nat → Nat → Int64) (jY : Nat → Int64) {r : Int32} {iY' : Nat → Int32} {sY' : Nat → Nat → Int32} {jY' : Nat → Int64} (hf : f_X11_behind N iY sY tY jY = some (r, iY', sY', jY')) : CI l G yX11_behind cX11_behind 1 .boolean 3 [.ref (uY 0)] (gY G uY iY sY tY jY) r (gY G uY iY' sY' tY jY') := by
  refine CI.of (by decide) (Nat.le_of_ble_eq_true rfl) ?_
  intro p e s m args below meth c A X hA hP hD hS ls hl
  have hl : lv_has ls 1 [(0, .ref (uY 0))] := hl
  generalize hQ : MQ below (QI G A r (gY G uY iY' sY' tY jY')) args s 0 0 A = QQ
  unfold f_X11_behind at hf
  refine lv_aload_n X.hx X.hb dX11_behind_0 rfl (lv_at hl 0 rfl) ?_
  obtain ⟨⟨iY_1, sY_2⟩, hc_3, hf⟩ := bd_i hf
  refine r_cvv (As := []) (rest := []) X sm_X11_452 (c_X11_nots l G N uY iY sY tY jY hc_3) hP hD hS hA 0 rfl rfl [0, 1, 2, 3, 4, 5, 6, 7, 8, 9, 10, 11, 12, 13, 14, 15, 16, 17, 18, 19, 20] rfl rfl rfl (wo := (gY G uY iY_1 sY_2 tY jY)) rfl rfl hl.1 (lv_room (Nat.le_of_ble_eq_true rfl)) ⟨Nat.le_of_ble_eq_true rfl, Nat.le_of_ble_eq_true rfl⟩ ⟨Nat.zero_le _, Nat.zero_le _⟩ dX11_behind_1 (fun H locs hP hD hS => ?_)
  refine lv_aload_n X.hx X.hb dX11_behind_4 rfl (lv_at hl 0 rfl) ?_
  refine lv_ldc2 (v := 6385252) X.hx X.hb X.hown (X.hts _ tw_1300) dX11_behind_5 ?_
  obtain ⟨r_4, hc_5, hf⟩ := bd_i hf
  refine r_cvi (As := [.long 6385252]) (rest := []) X sm_X11_220 (c_X11_isWord l G N uY iY_1 sY_2 tY jY 6385252 hc_5) hP hD hS hA 0 rfl rfl [0, 1, 2, 3, 4, 5, 6, 7, 8, 9, 10, 11, 12, 13, 14, 15, 16, 17, 18, 19, 20] rfl rfl rfl (wo := (gY G uY iY_1 sY_2 tY jY)) rfl rfl hl.1 (lv_room (Nat.le_of_ble_eq_true rfl)) ⟨Nat.le_of_ble_eq_true rfl, Nat.le_of_ble_eq_true rfl⟩ ⟨Nat.zero_le _, Nat.zero_le _⟩ dX11_behind_8 (fun H locs hP hD hS => ?_)
  obtain ⟨K_6, eK_8, hf⟩ := jn_i hf
  have hj_7 : ∀ (H : Heap) (locs : List Loc) (ls : Array Slot), K_6 () = some (r, iY', sY', jY') → va_P G.1 vwCl (gY G uY iY_1 sY_2 tY jY) H → va_D A (gY G uY iY_1 sY_2 tY jY) → va_S A s.heap H locs → lv_has ls 1 [(0, .ref (uY 0))] → W p l e (RM 3) s m args below meth c H locs 0 0 QQ (F0 m 24 ls []) := by
    intro  H locs ls hf hP hD hS hl
    rw [eK_8] at hf
    try dsimp only at hf
    refine lv_aload_n X.hx X.hb dX11_behind_24 rfl (lv_at hl 0 rfl) ?_
    refine lv_aload_n X.hx X.hb dX11_behind_25 rfl (lv_at hl 0 rfl) ?_
    refine lv_ldc2 (v := 6385252) X.hx X.hb X.hown (X.hts _ tw_1300) dX11_behind_26 ?_
    obtain ⟨r_9, hc_10, hf⟩ := bd_i hf
    refine r_cvi (As := [.long 6385252]) (rest := [.ref (uY 0)]) X sm_X11_220 (c_X11_isWord l G N uY iY_1 sY_2 tY jY 6385252 hc_10) hP hD hS hA 0 rfl rfl [0, 1, 2, 3, 4, 5, 6, 7, 8, 9, 10, 11, 12, 13, 14, 15, 16, 17, 18, 19, 20] rfl rfl rfl (wo := (gY G uY iY_1 sY_2 tY jY)) rfl rfl hl.1 (lv_room (Nat.le_of_ble_eq_true rfl)) ⟨Nat.le_of_ble_eq_true rfl, Nat.le_of_ble_eq_true rfl⟩ ⟨Nat.zero_le _, Nat.zero_le _⟩ dX11_behind_29 (fun H locs hP hD hS => ?_)
    obtain ⟨K_11, eK_13, hf⟩ := jn_i hf
    have hj_12 : ∀ (y_14 : Int32) (H : Heap) (locs : List Loc) (ls : Array Slot), K_11 y_14 = some (r, iY', sY', jY') → va_P G.1 vwCl (gY G uY iY_1 sY_2 tY jY) H → va_D A (gY G uY iY_1 sY_2 tY jY) → va_S A s.heap H locs → lv_has ls 1 [(0, .ref (uY 0))] → W p l e (RM 3) s m args below meth c H locs 0 0 QQ (F0 m 42 ls [.int y_14, .ref (uY 0)]) := by
      intro y_14 H locs ls hf hP hD hS hl
      rw [eK_13] at hf
      try dsimp only at hf
      obtain ⟨⟨iY_15, sY_16⟩, hc_17, hf⟩ := bd_i hf
      refine r_cvv (As := [.int y_14]) (rest := []) X sm_X11_455 (c_X11_joins l G N uY iY_1 sY_2 tY jY y_14 hc_17) hP hD hS hA 0 rfl rfl [0, 1, 2, 3, 4, 5, 6, 7, 8, 9, 10, 11, 12, 13, 14, 15, 16, 17, 18, 19, 20] rfl rfl rfl (wo := (gY G uY iY_15 sY_16 tY jY)) rfl rfl hl.1 (lv_room (Nat.le_of_ble_eq_true rfl)) ⟨Nat.le_of_ble_eq_true rfl, Nat.le_of_ble_eq_true rfl⟩ ⟨Nat.zero_le _, Nat.zero_le _⟩ dX11_behind_42 (fun H locs hP hD hS => ?_)
      refine lv_aload_n X.hx X.hb dX11_behind_45 rfl (lv_at hl 0 rfl) ?_
      refine gf_X11_80 X hP 0 rfl (v := .ref (uY 43)) rfl dX11_behind_46 ?_
      refine lv_aload_n X.hx X.hb dX11_behind_49 rfl (lv_at hl 0 rfl) ?_
      refine gf_X11_434 X hP 0 rfl (v := .int (iY_15 45)) rfl dX11_behind_50 ?_
      refine lv_aload_n X.hx X.hb dX11_behind_53 rfl (lv_at hl 0 rfl) ?_
      refine lv_ldc2 (v := 6385252) X.hx X.hb X.hown (X.hts _ tw_1300) dX11_behind_54 ?_
      obtain ⟨r_18, hc_19, hf⟩ := bd_i hf
      refine r_cvi (As := [.long 6385252]) (rest := [.int (iY_15 45), .ref (uY 43)]) X sm_X11_220 (c_X11_isWord l G N uY iY_15 sY_16 tY jY 6385252 hc_19) hP hD hS hA 0 rfl rfl [0, 1, 2, 3, 4, 5, 6, 7, 8, 9, 10, 11, 12, 13, 14, 15, 16, 17, 18, 19, 20] rfl rfl rfl (wo := (gY G uY iY_15 sY_16 tY jY)) rfl rfl hl.1 (lv_room (Nat.le_of_ble_eq_true rfl)) ⟨Nat.le_of_ble_eq_true rfl, Nat.le_of_ble_eq_true rfl⟩ ⟨Nat.zero_le _, Nat.zero_le _⟩ dX11_behind_57 (fun H locs hP hD hS => ?_)
      obtain ⟨K_20, eK_22, hf⟩ := jn_i hf
      have hj_21 : ∀ (y_23 : Int32) (H : Heap) (locs : List Loc) (ls : Array Slot), K_20 y_23 = some (r, iY', sY', jY') → va_P G.1 vwCl (gY G uY iY_15 sY_16 tY jY) H → va_D A (gY G uY iY_15 sY_16 tY jY) → va_S A s.heap H locs → lv_has ls 1 [(0, .ref (uY 0))] → W p l e (RM 3) s m args below meth c H locs 0 0 QQ (F0 m 70 ls [.int y_23, .int (iY_15 45), .ref (uY 43)]) := by
        intro y_23 H locs ls hf hP hD hS hl
        rw [eK_22] at hf
        try dsimp only at hf
        obtain ⟨hi_24, hf⟩ := ck_i hf
        obtain ⟨g_25, eg_25, hf⟩ := nv_i hf
        refine r_iast X hP hD hS 16 (f := (sY_16 42)) rfl hi_24 (wo := (gY G uY iY_15 (va_up sY_16 42 g_25) tY jY)) (by subst eg_25; rfl) dX11_behind_70 (fun H locs hP hD hS => ?_)
        refine lv_aload_n X.hx X.hb dX11_behind_71 rfl (lv_at hl 0 rfl) ?_
        refine lv_dup X.hx X.hb dX11_behind_72 rfl ?_
        refine gf_X11_434 X hP 0 rfl (v := .int (iY_15 45)) rfl dX11_behind_73 ?_
        refine lv_iconst (v := 1) X.hx X.hb dX11_behind_76 (by decide) ?_
        refine lv_iadd X.hx X.hb dX11_behind_77 ?_
        refine pf_X11_434 X hP hD hS 0 rfl rfl rfl (Nat.le_of_ble_eq_true rfl) (wo := (gY G uY (va_up iY_15 45 ((iY_15 45) + 1)) (va_up sY_16 42 g_25) tY jY)) rfl dX11_behind_78 (fun H locs hP hD hS => ?_)
        refine lv_aload_n X.hx X.hb dX11_behind_81 rfl (lv_at hl 0 rfl) ?_
        refine lv_iconst (v := 0) X.hx X.hb dX11_behind_82 (by decide) ?_
        refine pf_X11_449 X hP hD hS 0 rfl (by decide) (by decide) (Nat.le_of_ble_eq_true rfl) (wo := (gY G uY (va_up (va_up iY_15 45 ((iY_15 45) + 1)) 47 0) (va_up sY_16 42 g_25) tY jY)) rfl dX11_behind_83 (fun H locs hP hD hS => ?_)
        refine lv_aload_n X.hx X.hb dX11_behind_86 rfl (lv_at hl 0 rfl) ?_
        obtain ⟨⟨iY_26, jY_27⟩, hc_28, hf⟩ := bd_i hf
        refine r_cvv (As := []) (rest := []) X sm_X11_186 (c_X11_next l G N uY (va_up (va_up iY_15 45 ((iY_15 45) + 1)) 47 0) (va_up sY_16 42 g_25) tY jY hc_28) hP hD hS hA 0 rfl rfl [0, 1, 2, 3, 4, 5, 6, 7, 8, 9, 10, 11, 12, 13, 14, 15, 16, 17, 18, 19, 20] rfl rfl rfl (wo := (gY G uY iY_26 (va_up sY_16 42 g_25) tY jY_27)) rfl rfl hl.1 (lv_room (Nat.le_of_ble_eq_true rfl)) ⟨Nat.le_of_ble_eq_true rfl, Nat.le_of_ble_eq_true rfl⟩ ⟨Nat.zero_le _, Nat.zero_le _⟩ dX11_behind_87 (fun H locs hP hD hS => ?_)
        refine lv_iconst (v := 1) X.hx X.hb dX11_behind_90 (by decide) ?_
        cases hf
        subst hQ
        exact r_zret X hP hD hS (by decide) dX11_behind_91
      refine lv_if_eq (tgt := 68) X.hx X.hb dX11_behind_60 (by decide) (fun hc_29 => ?_) (fun hc_29 => ?_)
      · replace hf := if_t hf hc_29
        refine lv_bipush (v := 22) X.hx X.hb dX11_behind_68 (by decide) ?_
        exact hj_21 _ _ _ _ hf hP hD hS (lv_sub hl [0] rfl)
      · replace hf := if_f hf hc_29
        refine lv_bipush (v := 21) X.hx X.hb dX11_behind_63 (by decide) ?_
        refine lv_goto (tgt := 70) X.hx X.hb dX11_behind_65 (by decide) ?_
        exact hj_21 _ _ _ _ hf hP hD hS (lv_sub hl [0] rfl)
    refine lv_if_eq (tgt := 40) X.hx X.hb dX11_behind_32 (by decide) (fun hc_30 => ?_) (fun hc_30 => ?_)
    · replace hf := if_t hf hc_30
      refine lv_bipush (v := 22) X.hx X.hb dX11_behind_40 (by decide) ?_
      exact hj_12 _ _ _ _ hf hP hD hS (lv_sub hl [0] rfl)
    · replace hf := if_f hf hc_30
      refine lv_bipush (v := 21) X.hx X.hb dX11_behind_35 (by decide) ?_
      refine lv_goto (tgt := 42) X.hx X.hb dX11_behind_37 (by decide) ?_
      exact hj_12 _ _ _ _ hf hP hD hS (lv_sub hl [0] rfl)
  refine lv_if_ne (tgt := 24) X.hx X.hb dX11_behind_11 (by decide) (fun hc_31 => ?_) (fun hc_31 => ?_)
  · replace hf := if_f hf hc_31
    exact hj_7 _ _ _ hf hP hD hS (lv_sub hl [0] rfl)
  · replace hf := if_t hf hc_31
    refine lv_aload_n X.hx X.hb dX11_behind_14 rfl (lv_at hl 0 rfl) ?_
    refine lv_ldc2 (v := 28530) X.hx X.hb X.hown (X.hts _ tw_1299) dX11_behind_15 ?_
    obtain ⟨r_32, hc_33, hf⟩ := bd_i hf
    refine r_cvi (As := [.long 28530]) (rest := []) X sm_X11_220 (c_X11_isWord l G N uY iY_1 sY_2 tY jY 28530 hc_33) hP hD hS hA 0 rfl rfl [0, 1, 2, 3, 4, 5, 6, 7, 8, 9, 10, 11, 12, 13, 14, 15, 16, 17, 18, 19, 20] rfl rfl rfl (wo := (gY G uY iY_1 sY_2 tY jY)) rfl rfl hl.1 (lv_room (Nat.le_of_ble_eq_true rfl)) ⟨Nat.le_of_ble_eq_true rfl, Nat.le_of_ble_eq_true rfl⟩ ⟨Nat.zero_le _, Nat.zero_le _⟩ dX11_behind_18 (fun H locs hP hD hS => ?_)
    refine lv_if_eq (tgt := 92) X.hx X.hb dX11_behind_21 (by decide) (fun hc_34 => ?_) (fun hc_34 => ?_)
    · replace hf := if_t hf hc_34
      refine lv_aload_n X.hx X.hb dX11_behind_92 rfl (lv_at hl 0 rfl) ?_
      refine lv_bipush (v := 22) X.hx X.hb dX11_behind_93 (by decide) ?_
      obtain ⟨⟨iY_35, sY_36⟩, hc_37, hf⟩ := bd_i hf
      refine r_cvv (As := [.int 22]) (rest := []) X sm_X11_455 (c_X11_joins l G N uY iY_1 sY_2 tY jY 22 hc_37) hP hD hS hA 0 rfl rfl [0, 1, 2, 3, 4, 5, 6, 7, 8, 9, 10, 11, 12, 13, 14, 15, 16, 17, 18, 19, 20] rfl rfl rfl (wo := (gY G uY iY_35 sY_36 tY jY)) rfl rfl hl.1 (lv_room (Nat.le_of_ble_eq_true rfl)) ⟨Nat.le_of_ble_eq_true rfl, Nat.le_of_ble_eq_true rfl⟩ ⟨Nat.zero_le _, Nat.zero_le _⟩ dX11_behind_95 (fun H locs hP hD hS => ?_)
      refine lv_aload_n X.hx X.hb dX11_behind_98 rfl (lv_at hl 0 rfl) ?_
      refine lv_bipush (v := 41) X.hx X.hb dX11_behind_99 (by decide) ?_
      obtain ⟨r_38, hc_39, hf⟩ := bd_i hf
      refine r_cvi (As := [.int 41]) (rest := []) X sm_X11_180 (c_X11_isSign l G N uY iY_35 sY_36 tY jY 41 hc_39) hP hD hS hA 0 rfl rfl [0, 1, 2, 3, 4, 5, 6, 7, 8, 9, 10, 11, 12, 13, 14, 15, 16, 17, 18, 19, 20] rfl rfl rfl (wo := (gY G uY iY_35 sY_36 tY jY)) rfl rfl hl.1 (lv_room (Nat.le_of_ble_eq_true rfl)) ⟨Nat.le_of_ble_eq_true rfl, Nat.le_of_ble_eq_true rfl⟩ ⟨Nat.zero_le _, Nat.zero_le _⟩ dX11_behind_101 (fun H locs hP hD hS => ?_)
      obtain ⟨K_40, eK_42, hf⟩ := jn_i hf
      have hj_41 : ∀ (H : Heap) (locs : List Loc) (ls : Array Slot), K_40 () = some (r, iY', sY', jY') → va_P G.1 vwCl (gY G uY iY_35 sY_36 tY jY) H → va_D A (gY G uY iY_35 sY_36 tY jY) → va_S A s.heap H locs → lv_has ls 1 [(0, .ref (uY 0))] → W p l e (RM 3) s m args below meth c H locs 0 0 QQ (F0 m 114 ls []) := by
        intro  H locs ls hf hP hD hS hl
        rw [eK_42] at hf
        try dsimp only at hf
        refine lv_aload_n X.hx X.hb dX11_behind_114 rfl (lv_at hl 0 rfl) ?_
        refine lv_iconst (v := 1) X.hx X.hb dX11_behind_115 (by decide) ?_
        obtain ⟨⟨r_43, iY_44⟩, hc_45, hf⟩ := bd_i hf
        refine r_cvi (As := [.int 1]) (rest := []) X sm_X11_183 (c_X11_bad l G N uY iY_35 sY_36 tY jY 1 hc_45) hP hD hS hA 0 rfl rfl [0, 1, 2, 3, 4, 5, 6, 7, 8, 9, 10, 11, 12, 13, 14, 15, 16, 17, 18, 19, 20] rfl rfl rfl (wo := (gY G uY iY_44 sY_36 tY jY)) rfl rfl hl.1 (lv_room (Nat.le_of_ble_eq_true rfl)) ⟨Nat.le_of_ble_eq_true rfl, Nat.le_of_ble_eq_true rfl⟩ ⟨Nat.zero_le _, Nat.zero_le _⟩ dX11_behind_116 (fun H locs hP hD hS => ?_)
        obtain ⟨hb_46, hf⟩ := zb_i hf
        cases hf
        subst hQ
        exact r_zret X hP hD hS hb_46 dX11_behind_119
      refine lv_if_eq (tgt := 114) X.hx X.hb dX11_behind_104 (by decide) (fun hc_47 => ?_) (fun hc_47 => ?_)
      · replace hf := if_t hf hc_47
        exact hj_41 _ _ _ hf hP hD hS (lv_sub hl [0] rfl)
      · replace hf := if_f hf hc_47
        refine lv_aload_n X.hx X.hb dX11_behind_107 rfl (lv_at hl 0 rfl) ?_
        refine gf_X11_434 X hP 0 rfl (v := .int (iY_35 45)) rfl dX11_behind_108 ?_
        refine lv_if_ne (tgt := 120) X.hx X.hb dX11_behind_111 (by decide) (fun hc_48 => ?_) (fun hc_48 => ?_)
        · replace hf := if_f hf hc_48
          refine lv_aload_n X.hx X.hb dX11_behind_120 rfl (lv_at hl 0 rfl) ?_
          refine lv_dup X.hx X.hb dX11_behind_121 rfl ?_
          refine gf_X11_434 X hP 0 rfl (v := .int (iY_35 45)) rfl dX11_behind_122 ?_
          refine lv_iconst (v := 1) X.hx X.hb dX11_behind_125 (by decide) ?_
          refine lv_isub X.hx X.hb dX11_behind_126 ?_
          refine pf_X11_434 X hP hD hS 0 rfl rfl rfl (Nat.le_of_ble_eq_true rfl) (wo := (gY G uY (va_up iY_35 45 ((iY_35 45) - 1)) sY_36 tY jY)) rfl dX11_behind_127 (fun H locs hP hD hS => ?_)
          refine lv_aload_n X.hx X.hb dX11_behind_130 rfl (lv_at hl 0 rfl) ?_
          refine lv_dup X.hx X.hb dX11_behind_131 rfl ?_
          refine gf_X11_440 X hP 0 rfl (v := .int (iY_35 46)) rfl dX11_behind_132 ?_
          refine lv_iconst (v := 1) X.hx X.hb dX11_behind_135 (by decide) ?_
          refine lv_isub X.hx X.hb dX11_behind_136 ?_
          refine pf_X11_440 X hP hD hS 0 rfl rfl rfl (Nat.le_of_ble_eq_true rfl) (wo := (gY G uY (va_up (va_up iY_35 45 ((iY_35 45) - 1)) 46 ((iY_35 46) - 1)) sY_36 tY jY)) rfl dX11_behind_137 (fun H locs hP hD hS => ?_)
          refine lv_aload_n X.hx X.hb dX11_behind_140 rfl (lv_at hl 0 rfl) ?_
          obtain ⟨⟨iY_49, jY_50⟩, hc_51, hf⟩ := bd_i hf
          refine r_cvv (As := []) (rest := []) X sm_X11_186 (c_X11_next l G N uY (va_up (va_up iY_35 45 ((iY_35 45) - 1)) 46 ((iY_35 46) - 1)) sY_36 tY jY hc_51) hP hD hS hA 0 rfl rfl [0, 1, 2, 3, 4, 5, 6, 7, 8, 9, 10, 11, 12, 13, 14, 15, 16, 17, 18, 19, 20] rfl rfl rfl (wo := (gY G uY iY_49 sY_36 tY jY_50)) rfl rfl hl.1 (lv_room (Nat.le_of_ble_eq_true rfl)) ⟨Nat.le_of_ble_eq_true rfl, Nat.le_of_ble_eq_true rfl⟩ ⟨Nat.zero_le _, Nat.zero_le _⟩ dX11_behind_141 (fun H locs hP hD hS => ?_)
          refine lv_iconst (v := 1) X.hx X.hb dX11_behind_144 (by decide) ?_
          cases hf
          subst hQ
          exact r_zret X hP hD hS (by decide) dX11_behind_145
        · replace hf := if_t hf hc_48
          exact hj_41 _ _ _ hf hP hD hS (lv_sub hl [0] rfl)
    · replace hf := if_f hf hc_34
      exact hj_7 _ _ _ hf hP hD hS (lv_sub hl [0] rfl)

def f_X11_sentence_146 (N : Nat) (iY : Nat → Int32) (tY : Nat → Nat → Int64) (jY : Nat → Int64) : Nat → (Nat → Nat → Int32) → (Int32) → Option (Int32 × (Nat → Int32) × (Nat → Nat → Int32) × (Nat → Int64))
  | 0, _, _ => none
  | k + 1, sY, v2 => (if ((3 : Int32) * (iY 43)) ≤ v2 then some ((iY 44), iY, sY, jY) else ck v2 160 (ck ((277 : Int32) + v2) 457 (nv (upd (sY 6) (ix ((277 : Int32) + v2)) ((sY 8) (ix v2))) (fun g_23 => f_X11_sentence_146 N iY tY jY k (va_up sY 6 g_23) (v2 + 1)))))
def f_X11_sentence_48 (N : Nat) (tY : Nat → Nat → Int64) (K_36 : ((Nat → Int32) × (Nat → Nat → Int32) × (Nat → Int64)) → Option (Int32 × (Nat → Int32) × (Nat → Nat → Int32) × (Nat → Int64))) (K_30 : ((Nat → Int32) × (Nat → Nat → Int32) × (Nat → Int64)) → Option (Int32 × (Nat → Int32) × (Nat → Nat → Int32) × (Nat → Int64))) (K_24 : ((Nat → Int32) × (Nat → Nat → Int32) × (Nat → Int64)) → Option (Int32 × (Nat → Int32) × (Nat → Nat → Int32) × (Nat → Int64))) (K_6 : ((Nat → Int32) × (Nat → Nat → Int32) × (Nat → Int64)) → Option (Int32 × (Nat → Int32) × (Nat → Nat → Int32) × (Nat → Int64))) : Nat → (Nat → Int32) → (Nat → Nat → Int32) → (Nat → Int64) → (Int32) → Option (Int32 × (Nat → Int32) × (Nat → Nat → Int32) × (Nat → Int64))
  | 0, _, _, _, _ => none
  | k + 1, iY, sY, jY, v1 => (if v1 = 0 then K_6 (iY, sY, jY) else jn (fun (z : Unit) => match z with | () => (if (iY 47) = 0 then bd (f_X11_operand N iY sY tY jY) (fun (r_81, iY_82, sY_83, jY_84) => (if r_81 = 0 then K_24 (iY_82, sY_83, jY_84) else f_X11_sentence_48 N tY K_36 K_30 K_24 K_6 k iY_82 sY_83 jY_84 v1)) else bd (f_X11_behind N iY sY tY jY) (fun (r_87, iY_88, sY_89, jY_90) => (if r_87 = 0 then K_30 (iY_88, sY_89, jY_90) else f_X11_sentence_48 N tY K_36 K_30 K_24 K_6 k iY_88 sY_89 jY_90 v1)))) (fun K_77 => (if (iY 47) = 0 then K_77 () else (if (iY 11) = 0 then bd (f_X11_nots N iY sY tY jY) (fun (iY_95, sY_96) => bd (f_X11_joins N iY_95 sY_96 tY jY 22) (fun (iY_98, sY_99) => (if (iY_98 45) ≤ 0 then f_X11_sentence_48 N tY K_36 K_30 K_24 K_6 k iY_98 sY_99 jY 0 else K_36 (iY_98, sY_99, jY)))) else K_77 ()))))
def f_X11_sentence (N : Nat) (iY : Nat → Int32) (sY : Nat → Nat → Int32) (tY : Nat → Nat → Int64) (jY : Nat → Int64) : Option (Int32 × (Nat → Int32) × (Nat → Nat → Int32) × (Nat → Int64)) :=
  bd (f_X11_taken N (va_up iY 0 0) sY tY jY 200) (fun iY_1 => bd (f_X11_next N (va_up (va_up (va_up (va_up (va_up (va_up iY_1 15 0) 43 0) 44 0) 45 0) 46 1) 47 0) sY tY jY) (fun (iY_3, jY_4) => jn (fun (z : (Nat → Int32) × (Nat → Nat → Int32) × (Nat → Int64)) => match z with | (iY_9, sY_10, jY_11) => nv (upd (sY_10 6) 276 (iY_9 43)) (fun g_12 => f_X11_sentence_146 N iY_9 tY jY_11 N (va_up sY_10 6 g_12) 0)) (fun K_6 => jn (fun (z : (Nat → Int32) × (Nat → Nat → Int32) × (Nat → Int64)) => match z with | (iY_27, sY_28, jY_29) => some (((-1 : Int32) - (iY_27 16)), iY_27, sY_28, jY_29)) (fun K_24 => jn (fun (z : (Nat → Int32) × (Nat → Nat → Int32) × (Nat → Int64)) => match z with | (iY_33, sY_34, jY_35) => K_24 (iY_33, sY_34, jY_35)) (fun K_30 => jn (fun (z : (Nat → Int32) × (Nat → Nat → Int32) × (Nat → Int64)) => match z with | (iY_39, sY_40, jY_41) => bd (f_X11_bad N iY_39 sY_40 tY jY_41 1) (fun (r_42, iY_43) => some (((-1 : Int32) - (iY_43 16)), iY_43, sY_40, jY_41))) (fun K_36 => f_X11_sentence_48 N tY K_36 K_30 K_24 K_6 N iY_3 sY jY_4 1))))))
set_option maxHeartbeats 4000000 in
set_option maxRecDepth 100000 in
theorem c_X11_sentence (l : Launch) (G : GT) (N : Nat) (uY : Nat → Nat) (iY : Nat → Int32) (sY : Nat → Nat → Int32) (tY : Nat → Nat → Int64) (jY : Nat → Int64) {r : Int32} {iY' : Nat → Int32} {sY' : Nat → Nat → Int32} {jY' : Nat → Int64} (hf : f_X11_sentence N iY sY tY jY = some (r, iY', sY', jY')) : CI l G yX11_sentence cX11_sentence 3 .int 4 [.ref (uY 0)] (gY G uY iY sY tY jY) r (gY G uY iY' sY' tY jY') := by
  refine CI.of (by decide) (Nat.le_of_ble_eq_true rfl) ?_
  intro p e s m args below meth c A X hA hP hD hS ls hl
  have hl : lv_has ls 3 [(0, .ref (uY 0))] := hl
  generalize hQ : MQ below (QI G A r (gY G uY iY' sY' tY jY')) args s 0 0 A = QQ
  unfold f_X11_sentence at hf
  refine lv_aload_n X.hx X.hb dX11_sentence_0 rfl (lv_at hl 0 rfl) ?_
  refine lv_iconst (v := 0) X.hx X.hb dX11_sentence_1 (by decide) ?_
  refine pf_X11_1 X hP hD hS 0 rfl rfl rfl (Nat.le_of_ble_eq_true rfl) (wo := (gY G uY (va_up iY 0 0) sY tY jY)) rfl dX11_sentence_2 (fun H locs hP hD hS => ?_)
  refine lv_aload_n X.hx X.hb dX11_sentence_5 rfl (lv_at hl 0 rfl) ?_
  refine lv_sipush (v := 200) X.hx X.hb dX11_sentence_6 (by decide) ?_
  obtain ⟨iY_1, hc_2, hf⟩ := bd_i hf
  refine r_cvv (As := [.int 200]) (rest := []) X sm_X11_247 (c_X11_taken l G N uY (va_up iY 0 0) sY tY jY 200 hc_2) hP hD hS hA 0 rfl rfl [0, 1, 2, 3, 4, 5, 6, 7, 8, 9, 10, 11, 12, 13, 14, 15, 16, 17, 18, 19, 20] rfl rfl rfl (wo := (gY G uY iY_1 sY tY jY)) rfl rfl hl.1 (lv_room (Nat.le_of_ble_eq_true rfl)) ⟨Nat.le_of_ble_eq_true rfl, Nat.le_of_ble_eq_true rfl⟩ ⟨Nat.zero_le _, Nat.zero_le _⟩ dX11_sentence_9 (fun H locs hP hD hS => ?_)
  refine lv_aload_n X.hx X.hb dX11_sentence_12 rfl (lv_at hl 0 rfl) ?_
  refine lv_iconst (v := 0) X.hx X.hb dX11_sentence_13 (by decide) ?_
  refine pf_X11_174 X hP hD hS 0 rfl rfl rfl (Nat.le_of_ble_eq_true rfl) (wo := (gY G uY (va_up iY_1 15 0) sY tY jY)) rfl dX11_sentence_14 (fun H locs hP hD hS => ?_)
  refine lv_aload_n X.hx X.hb dX11_sentence_17 rfl (lv_at hl 0 rfl) ?_
  refine lv_iconst (v := 0) X.hx X.hb dX11_sentence_18 (by decide) ?_
  refine pf_X11_431 X hP hD hS 0 rfl rfl rfl (Nat.le_of_ble_eq_true rfl) (wo := (gY G uY (va_up (va_up iY_1 15 0) 43 0) sY tY jY)) rfl dX11_sentence_19 (fun H locs hP hD hS => ?_)
  refine lv_aload_n X.hx X.hb dX11_sentence_22 rfl (lv_at hl 0 rfl) ?_
  refine lv_iconst (v := 0) X.hx X.hb dX11_sentence_23 (by decide) ?_
  refine pf_X11_446 X hP hD hS 0 rfl rfl rfl (Nat.le_of_ble_eq_true rfl) (wo := (gY G uY (va_up (va_up (va_up iY_1 15 0) 43 0) 44 0) sY tY jY)) rfl dX11_sentence_24 (fun H locs hP hD hS => ?_)
  refine lv_aload_n X.hx X.hb dX11_sentence_27 rfl (lv_at hl 0 rfl) ?_
  refine lv_iconst (v := 0) X.hx X.hb dX11_sentence_28 (by decide) ?_
  refine pf_X11_434 X hP hD hS 0 rfl rfl rfl (Nat.le_of_ble_eq_true rfl) (wo := (gY G uY (va_up (va_up (va_up (va_up iY_1 15 0) 43 0) 44 0) 45 0) sY tY jY)) rfl dX11_sentence_29 (fun H locs hP hD hS => ?_)
  refine lv_aload_n X.hx X.hb dX11_sentence_32 rfl (lv_at hl 0 rfl) ?_
  refine lv_iconst (v := 1) X.hx X.hb dX11_sentence_33 (by decide) ?_
  refine pf_X11_440 X hP hD hS 0 rfl rfl rfl (Nat.le_of_ble_eq_true rfl) (wo := (gY G uY (va_up (va_up (va_up (va_up (va_up iY_1 15 0) 43 0) 44 0) 45 0) 46 1) sY tY jY)) rfl dX11_sentence_34 (fun H locs hP hD hS => ?_)
  refine lv_aload_n X.hx X.hb dX11_sentence_37 rfl (lv_at hl 0 rfl) ?_
  refine lv_iconst (v := 0) X.hx X.hb dX11_sentence_38 (by decide) ?_
  refine pf_X11_449 X hP hD hS 0 rfl (by decide) (by decide) (Nat.le_of_ble_eq_true rfl) (wo := (gY G uY (va_up (va_up (va_up (va_up (va_up (va_up iY_1 15 0) 43 0) 44 0) 45 0) 46 1) 47 0) sY tY jY)) rfl dX11_sentence_39 (fun H locs hP hD hS => ?_)
  refine lv_aload_n X.hx X.hb dX11_sentence_42 rfl (lv_at hl 0 rfl) ?_
  obtain ⟨⟨iY_3, jY_4⟩, hc_5, hf⟩ := bd_i hf
  refine r_cvv (As := []) (rest := []) X sm_X11_186 (c_X11_next l G N uY (va_up (va_up (va_up (va_up (va_up (va_up iY_1 15 0) 43 0) 44 0) 45 0) 46 1) 47 0) sY tY jY hc_5) hP hD hS hA 0 rfl rfl [0, 1, 2, 3, 4, 5, 6, 7, 8, 9, 10, 11, 12, 13, 14, 15, 16, 17, 18, 19, 20] rfl rfl rfl (wo := (gY G uY iY_3 sY tY jY_4)) rfl rfl hl.1 (lv_room (Nat.le_of_ble_eq_true rfl)) ⟨Nat.le_of_ble_eq_true rfl, Nat.le_of_ble_eq_true rfl⟩ ⟨Nat.zero_le _, Nat.zero_le _⟩ dX11_sentence_43 (fun H locs hP hD hS => ?_)
  refine lv_iconst (v := 1) X.hx X.hb dX11_sentence_46 (by decide) ?_
  refine lv_istore_n (lv' := [(1, .int 1), (0, .ref (uY 0))]) X.hx X.hb dX11_sentence_47 rfl hl (by decide) rfl (fun ls hl => ?_)
  obtain ⟨K_6, eK_8, hf⟩ := jn_i hf
  have hj_7 : ∀ (iY_9 : Nat → Int32) (sY_10 : Nat → Nat → Int32) (jY_11 : Nat → Int64) (H : Heap) (locs : List Loc) (ls : Array Slot), K_6 (iY_9, sY_10, jY_11) = some (r, iY', sY', jY') → va_P G.1 vwCl (gY G uY iY_9 sY_10 tY jY_11) H → va_D A (gY G uY iY_9 sY_10 tY jY_11) → va_S A s.heap H locs → lv_has ls 3 [(0, .ref (uY 0))] → W p l e (RM 4) s m args below meth c H locs 0 0 QQ (F0 m 132 ls []) := by
    intro iY_9 sY_10 jY_11 H locs ls hf hP hD hS hl
    rw [eK_8] at hf
    try dsimp only at hf
    refine lv_aload_n X.hx X.hb dX11_sentence_132 rfl (lv_at hl 0 rfl) ?_
    refine gf_X11_33 X hP 0 rfl (v := .ref (uY 7)) rfl dX11_sentence_133 ?_
    refine lv_sipush (v := 276) X.hx X.hb dX11_sentence_136 (by decide) ?_
    refine lv_aload_n X.hx X.hb dX11_sentence_139 rfl (lv_at hl 0 rfl) ?_
    refine gf_X11_431 X hP 0 rfl (v := .int (iY_9 43)) rfl dX11_sentence_140 ?_
    obtain ⟨g_12, eg_12, hf⟩ := nv_i hf
    refine r_iast X hP hD hS 2 (f := (sY_10 6)) rfl (vp_c rfl) (wo := (gY G uY iY_9 (va_up sY_10 6 g_12) tY jY_11)) (by subst eg_12; rfl) dX11_sentence_143 (fun H locs hP hD hS => ?_)
    refine lv_iconst (v := 0) X.hx X.hb dX11_sentence_144 (by decide) ?_
    refine lv_istore_n (lv' := [(2, .int 0), (0, .ref (uY 0))]) X.hx X.hb dX11_sentence_145 rfl hl (by decide) rfl (fun ls hl => ?_)
    have hlo_13 : ∀ (k : Nat) (sY_14 : Nat → Nat → Int32) (v2_15 : Int32) (H : Heap) (locs : List Loc) (ls : Array Slot), f_X11_sentence_146 N iY_9 tY jY_11 k sY_14 v2_15 = some (r, iY', sY', jY') → va_P G.1 vwCl (gY G uY iY_9 sY_14 tY jY_11) H → va_D A (gY G uY iY_9 sY_14 tY jY_11) → va_S A s.heap H locs → lv_has ls 3 [(0, .ref (uY 0)), (2, .int v2_15)] → W p l e (RM 4) s m args below meth c H locs 0 0 QQ (F0 m 146 ls []) := by
      intro k
      induction k with
      | zero => intro sY_14 v2_15 H locs ls hf; exact absurd hf (by intro q; cases q)
      | succ k ih =>
        intro sY_14 v2_15 H locs ls hf hP hD hS hl
        unfold f_X11_sentence_146 at hf
        refine lv_iload_n X.hx X.hb dX11_sentence_146 rfl (lv_at hl 1 rfl) ?_
        refine lv_iconst (v := 3) X.hx X.hb dX11_sentence_147 (by decide) ?_
        refine lv_aload_n X.hx X.hb dX11_sentence_148 rfl (lv_at hl 0 rfl) ?_
        refine gf_X11_431 X hP 0 rfl (v := .int (iY_9 43)) rfl dX11_sentence_149 ?_
        refine lv_imul X.hx X.hb dX11_sentence_152 ?_
        refine lv_icmp_ge (tgt := 178) X.hx X.hb dX11_sentence_153 (by decide) (fun hc_16 => ?_) (fun hc_16 => ?_)
        · replace hf := if_t hf hc_16
          refine lv_aload_n X.hx X.hb dX11_sentence_178 rfl (lv_at hl 0 rfl) ?_
          refine gf_X11_446 X hP 0 rfl (v := .int (iY_9 44)) rfl dX11_sentence_179 ?_
          cases hf
          subst hQ
          exact r_iret X hP hD hS dX11_sentence_182
        · replace hf := if_f hf hc_16
          refine lv_aload_n X.hx X.hb dX11_sentence_156 rfl (lv_at hl 0 rfl) ?_
          refine gf_X11_33 X hP 0 rfl (v := .ref (uY 7)) rfl dX11_sentence_157 ?_
          refine lv_sipush (v := 277) X.hx X.hb dX11_sentence_160 (by decide) ?_
          refine lv_iload_n X.hx X.hb dX11_sentence_163 rfl (lv_at hl 1 rfl) ?_
          refine lv_iadd X.hx X.hb dX11_sentence_164 ?_
          refine lv_aload_n X.hx X.hb dX11_sentence_165 rfl (lv_at hl 0 rfl) ?_
          refine gf_X11_40 X hP 0 rfl (v := .ref (uY 9)) rfl dX11_sentence_166 ?_
          refine lv_iload_n X.hx X.hb dX11_sentence_169 rfl (lv_at hl 1 rfl) ?_
          obtain ⟨hi_17, hf⟩ := ck_i hf
          refine r_iald X hP 4 (f := (sY_14 8)) rfl hi_17 dX11_sentence_170 ?_
          obtain ⟨hi_18, hf⟩ := ck_i hf
          obtain ⟨g_19, eg_19, hf⟩ := nv_i hf
          refine r_iast X hP hD hS 2 (f := (sY_14 6)) rfl hi_18 (wo := (gY G uY iY_9 (va_up sY_14 6 g_19) tY jY_11)) (by subst eg_19; rfl) dX11_sentence_171 (fun H locs hP hD hS => ?_)
          refine lv_iinc (v := (v2_15 + 1)) (lv' := [(2, .int (v2_15 + 1)), (0, .ref (uY 0))]) X.hx X.hb dX11_sentence_172 hl (k := 1) rfl rfl (by decide) rfl (fun ls hl => ?_)
          refine lv_goto (tgt := 146) X.hx X.hb dX11_sentence_175 (by decide) ?_
          exact ih _ _ _ _ _ hf hP hD hS (lv_sub hl [1, 0] rfl)
    exact hlo_13 N _ _ _ _ _ hf hP hD hS (lv_sub hl [1, 0] rfl)
  obtain ⟨K_24, eK_26, hf⟩ := jn_i hf
  have hj_25 : ∀ (iY_27 : Nat → Int32) (sY_28 : Nat → Nat → Int32) (jY_29 : Nat → Int64) (H : Heap) (locs : List Loc) (ls : Array Slot), K_24 (iY_27, sY_28, jY_29) = some (r, iY', sY', jY') → va_P G.1 vwCl (gY G uY iY_27 sY_28 tY jY_29) H → va_D A (gY G uY iY_27 sY_28 tY jY_29) → va_S A s.heap H locs → lv_has ls 3 [(0, .ref (uY 0))] → W p l e (RM 4) s m args below meth c H locs 0 0 QQ (F0 m 125 ls []) := by
    intro iY_27 sY_28 jY_29 H locs ls hf hP hD hS hl
    rw [eK_26] at hf
    try dsimp only at hf
    refine lv_iconst (v := (-1)) X.hx X.hb dX11_sentence_125 (by decide) ?_
    refine lv_aload_n X.hx X.hb dX11_sentence_126 rfl (lv_at hl 0 rfl) ?_
    refine gf_X11_177 X hP 0 rfl (v := .int (iY_27 16)) rfl dX11_sentence_127 ?_
    refine lv_isub X.hx X.hb dX11_sentence_130 ?_
    cases hf
    subst hQ
    exact r_iret X hP hD hS dX11_sentence_131
  obtain ⟨K_30, eK_32, hf⟩ := jn_i hf
  have hj_31 : ∀ (iY_33 : Nat → Int32) (sY_34 : Nat → Nat → Int32) (jY_35 : Nat → Int64) (H : Heap) (locs : List Loc) (ls : Array Slot), K_30 (iY_33, sY_34, jY_35) = some (r, iY', sY', jY') → va_P G.1 vwCl (gY G uY iY_33 sY_34 tY jY_35) H → va_D A (gY G uY iY_33 sY_34 tY jY_35) → va_S A s.heap H locs → lv_has ls 3 [(0, .ref (uY 0))] → W p l e (RM 4) s m args below meth c H locs 0 0 QQ (F0 m 115 ls []) := by
    intro iY_33 sY_34 jY_35 H locs ls hf hP hD hS hl
    rw [eK_32] at hf
    try dsimp only at hf
    refine lv_goto (tgt := 125) X.hx X.hb dX11_sentence_115 (by decide) ?_
    exact hj_25 _ _ _ _ _ _ hf hP hD hS (lv_sub hl [0] rfl)
  obtain ⟨K_36, eK_38, hf⟩ := jn_i hf
  have hj_37 : ∀ (iY_39 : Nat → Int32) (sY_40 : Nat → Nat → Int32) (jY_41 : Nat → Int64) (H : Heap) (locs : List Loc) (ls : Array Slot), K_36 (iY_39, sY_40, jY_41) = some (r, iY', sY', jY') → va_P G.1 vwCl (gY G uY iY_39 sY_40 tY jY_41) H → va_D A (gY G uY iY_39 sY_40 tY jY_41) → va_S A s.heap H locs → lv_has ls 3 [(0, .ref (uY 0))] → W p l e (RM 4) s m args below meth c H locs 0 0 QQ (F0 m 83 ls []) := by
    intro iY_39 sY_40 jY_41 H locs ls hf hP hD hS hl
    rw [eK_38] at hf
    try dsimp only at hf
    refine lv_aload_n X.hx X.hb dX11_sentence_83 rfl (lv_at hl 0 rfl) ?_
    refine lv_iconst (v := 1) X.hx X.hb dX11_sentence_84 (by decide) ?_
    obtain ⟨⟨r_42, iY_43⟩, hc_44, hf⟩ := bd_i hf
    refine r_cvi (As := [.int 1]) (rest := []) X sm_X11_183 (c_X11_bad l G N uY iY_39 sY_40 tY jY_41 1 hc_44) hP hD hS hA 0 rfl rfl [0, 1, 2, 3, 4, 5, 6, 7, 8, 9, 10, 11, 12, 13, 14, 15, 16, 17, 18, 19, 20] rfl rfl rfl (wo := (gY G uY iY_43 sY_40 tY jY_41)) rfl rfl hl.1 (lv_room (Nat.le_of_ble_eq_true rfl)) ⟨Nat.le_of_ble_eq_true rfl, Nat.le_of_ble_eq_true rfl⟩ ⟨Nat.zero_le _, Nat.zero_le _⟩ dX11_sentence_85 (fun H locs hP hD hS => ?_)
    refine lv_pop X.hx X.hb dX11_sentence_88 rfl ?_
    refine lv_iconst (v := (-1)) X.hx X.hb dX11_sentence_89 (by decide) ?_
    refine lv_aload_n X.hx X.hb dX11_sentence_90 rfl (lv_at hl 0 rfl) ?_
    refine gf_X11_177 X hP 0 rfl (v := .int (iY_43 16)) rfl dX11_sentence_91 ?_
    refine lv_isub X.hx X.hb dX11_sentence_94 ?_
    cases hf
    subst hQ
    exact r_iret X hP hD hS dX11_sentence_95
  have hlo_45 : ∀ (k : Nat) (iY_46 : Nat → Int32) (sY_47 : Nat → Nat → Int32) (jY_48 : Nat → Int64) (v1_49 : Int32) (H : Heap) (locs : List Loc) (ls : Array Slot), f_X11_sentence_48 N tY K_36 K_30 K_24 K_6 k iY_46 sY_47 jY_48 v1_49 = some (r, iY', sY', jY') → va_P G.1 vwCl (gY G uY iY_46 sY_47 tY jY_48) H → va_D A (gY G uY iY_46 sY_47 tY jY_48) → va_S A s.heap H locs → lv_has ls 3 [(0, .ref (uY 0)), (1, .int v1_49)] → W p l e (RM 4) s m args below meth c H locs 0 0 QQ (F0 m 48 ls []) := by
    intro k
    induction k with
    | zero => intro iY_46 sY_47 jY_48 v1_49 H locs ls hf; exact absurd hf (by intro q; cases q)
    | succ k ih =>
      intro iY_46 sY_47 jY_48 v1_49 H locs ls hf hP hD hS hl
      unfold f_X11_sentence_48 at hf
      refine lv_iload_n X.hx X.hb dX11_sentence_48 rfl (lv_at hl 1 rfl) ?_
      refine lv_if_eq (tgt := 132) X.hx X.hb dX11_sentence_49 (by decide) (fun hc_50 => ?_) (fun hc_50 => ?_)
      · replace hf := if_t hf hc_50
        exact hj_7 _ _ _ _ _ _ hf hP hD hS (lv_sub hl [0] rfl)
      · replace hf := if_f hf hc_50
        refine lv_aload_n X.hx X.hb dX11_sentence_52 rfl (lv_at hl 0 rfl) ?_
        refine gf_X11_449 X hP 0 rfl (v := .int (iY_46 47)) rfl dX11_sentence_53 ?_
        obtain ⟨K_51, eK_53, hf⟩ := jn_i hf
        have hj_52 : ∀ (H : Heap) (locs : List Loc) (ls : Array Slot), K_51 () = some (r, iY', sY', jY') → va_P G.1 vwCl (gY G uY iY_46 sY_47 tY jY_48) H → va_D A (gY G uY iY_46 sY_47 tY jY_48) → va_S A s.heap H locs → lv_has ls 3 [(0, .ref (uY 0)), (1, .int v1_49)] → W p l e (RM 4) s m args below meth c H locs 0 0 QQ (F0 m 101 ls []) := by
          intro  H locs ls hf hP hD hS hl
          rw [eK_53] at hf
          try dsimp only at hf
          refine lv_aload_n X.hx X.hb dX11_sentence_101 rfl (lv_at hl 0 rfl) ?_
          refine gf_X11_449 X hP 0 rfl (v := .int (iY_46 47)) rfl dX11_sentence_102 ?_
          refine lv_if_eq (tgt := 118) X.hx X.hb dX11_sentence_105 (by decide) (fun hc_54 => ?_) (fun hc_54 => ?_)
          · replace hf := if_t hf hc_54
            refine lv_aload_n X.hx X.hb dX11_sentence_118 rfl (lv_at hl 0 rfl) ?_
            obtain ⟨⟨r_55, iY_56, sY_57, jY_58⟩, hc_59, hf⟩ := bd_i hf
            refine r_cvi (As := []) (rest := []) X sm_X11_461 (c_X11_operand l G N uY iY_46 sY_47 tY jY_48 hc_59) hP hD hS hA 0 rfl rfl [0, 1, 2, 3, 4, 5, 6, 7, 8, 9, 10, 11, 12, 13, 14, 15, 16, 17, 18, 19, 20] rfl rfl rfl (wo := (gY G uY iY_56 sY_57 tY jY_58)) rfl rfl hl.1 (lv_room (Nat.le_of_ble_eq_true rfl)) ⟨Nat.le_of_ble_eq_true rfl, Nat.le_of_ble_eq_true rfl⟩ ⟨Nat.zero_le _, Nat.zero_le _⟩ dX11_sentence_119 (fun H locs hP hD hS => ?_)
            refine lv_if_ne (tgt := 48) X.hx X.hb dX11_sentence_122 (by decide) (fun hc_60 => ?_) (fun hc_60 => ?_)
            · replace hf := if_f hf hc_60
              exact ih _ _ _ _ _ _ _ hf hP hD hS (lv_sub hl [0, 1] rfl)
            · replace hf := if_t hf hc_60
              exact hj_25 _ _ _ _ _ _ hf hP hD hS (lv_sub hl [0] rfl)
          · replace hf := if_f hf hc_54
            refine lv_aload_n X.hx X.hb dX11_sentence_108 rfl (lv_at hl 0 rfl) ?_
            obtain ⟨⟨r_61, iY_62, sY_63, jY_64⟩, hc_65, hf⟩ := bd_i hf
            refine r_cvi (As := []) (rest := []) X sm_X11_458 (c_X11_behind l G N uY iY_46 sY_47 tY jY_48 hc_65) hP hD hS hA 0 rfl rfl [0, 1, 2, 3, 4, 5, 6, 7, 8, 9, 10, 11, 12, 13, 14, 15, 16, 17, 18, 19, 20] rfl rfl rfl (wo := (gY G uY iY_62 sY_63 tY jY_64)) rfl rfl hl.1 (lv_room (Nat.le_of_ble_eq_true rfl)) ⟨Nat.le_of_ble_eq_true rfl, Nat.le_of_ble_eq_true rfl⟩ ⟨Nat.zero_le _, Nat.zero_le _⟩ dX11_sentence_109 (fun H locs hP hD hS => ?_)
            refine lv_if_ne (tgt := 48) X.hx X.hb dX11_sentence_112 (by decide) (fun hc_66 => ?_) (fun hc_66 => ?_)
            · replace hf := if_f hf hc_66
              exact ih _ _ _ _ _ _ _ hf hP hD hS (lv_sub hl [0, 1] rfl)
            · replace hf := if_t hf hc_66
              exact hj_31 _ _ _ _ _ _ hf hP hD hS (lv_sub hl [0] rfl)
        refine lv_if_eq (tgt := 101) X.hx X.hb dX11_sentence_56 (by decide) (fun hc_67 => ?_) (fun hc_67 => ?_)
        · replace hf := if_t hf hc_67
          exact hj_52 _ _ _ hf hP hD hS (lv_sub hl [0, 1] rfl)
        · replace hf := if_f hf hc_67
          refine lv_aload_n X.hx X.hb dX11_sentence_59 rfl (lv_at hl 0 rfl) ?_
          refine gf_X11_157 X hP 0 rfl (v := .int (iY_46 11)) rfl dX11_sentence_60 ?_
          refine lv_if_ne (tgt := 101) X.hx X.hb dX11_sentence_63 (by decide) (fun hc_68 => ?_) (fun hc_68 => ?_)
          · replace hf := if_f hf hc_68
            exact hj_52 _ _ _ hf hP hD hS (lv_sub hl [0, 1] rfl)
          · replace hf := if_t hf hc_68
            refine lv_aload_n X.hx X.hb dX11_sentence_66 rfl (lv_at hl 0 rfl) ?_
            obtain ⟨⟨iY_69, sY_70⟩, hc_71, hf⟩ := bd_i hf
            refine r_cvv (As := []) (rest := []) X sm_X11_452 (c_X11_nots l G N uY iY_46 sY_47 tY jY_48 hc_71) hP hD hS hA 0 rfl rfl [0, 1, 2, 3, 4, 5, 6, 7, 8, 9, 10, 11, 12, 13, 14, 15, 16, 17, 18, 19, 20] rfl rfl rfl (wo := (gY G uY iY_69 sY_70 tY jY_48)) rfl rfl hl.1 (lv_room (Nat.le_of_ble_eq_true rfl)) ⟨Nat.le_of_ble_eq_true rfl, Nat.le_of_ble_eq_true rfl⟩ ⟨Nat.zero_le _, Nat.zero_le _⟩ dX11_sentence_67 (fun H locs hP hD hS => ?_)
            refine lv_aload_n X.hx X.hb dX11_sentence_70 rfl (lv_at hl 0 rfl) ?_
            refine lv_bipush (v := 22) X.hx X.hb dX11_sentence_71 (by decide) ?_
            obtain ⟨⟨iY_72, sY_73⟩, hc_74, hf⟩ := bd_i hf
            refine r_cvv (As := [.int 22]) (rest := []) X sm_X11_455 (c_X11_joins l G N uY iY_69 sY_70 tY jY_48 22 hc_74) hP hD hS hA 0 rfl rfl [0, 1, 2, 3, 4, 5, 6, 7, 8, 9, 10, 11, 12, 13, 14, 15, 16, 17, 18, 19, 20] rfl rfl rfl (wo := (gY G uY iY_72 sY_73 tY jY_48)) rfl rfl hl.1 (lv_room (Nat.le_of_ble_eq_true rfl)) ⟨Nat.le_of_ble_eq_true rfl, Nat.le_of_ble_eq_true rfl⟩ ⟨Nat.zero_le _, Nat.zero_le _⟩ dX11_sentence_73 (fun H locs hP hD hS => ?_)
            refine lv_aload_n X.hx X.hb dX11_sentence_76 rfl (lv_at hl 0 rfl) ?_
            refine gf_X11_434 X hP 0 rfl (v := .int (iY_72 45)) rfl dX11_sentence_77 ?_
            refine lv_if_le (tgt := 96) X.hx X.hb dX11_sentence_80 (by decide) (fun hc_75 => ?_) (fun hc_75 => ?_)
            · replace hf := if_t hf hc_75
              refine lv_iconst (v := 0) X.hx X.hb dX11_sentence_96 (by decide) ?_
              refine lv_istore_n (lv' := [(1, .int 0), (0, .ref (uY 0))]) X.hx X.hb dX11_sentence_97 rfl hl (by decide) rfl (fun ls hl => ?_)
              refine lv_goto (tgt := 48) X.hx X.hb dX11_sentence_98 (by decide) ?_
              exact ih _ _ _ _ _ _ _ hf hP hD hS (lv_sub hl [1, 0] rfl)
            · replace hf := if_f hf hc_75
              exact hj_37 _ _ _ _ _ _ hf hP hD hS (lv_sub hl [0] rfl)
  exact hlo_45 N _ _ _ _ _ _ _ hf hP hD hS (lv_sub hl [1, 0] rfl)

