def f_X6_clear (N : Nat) (iS : Nat → Int32) (sS : Nat → Nat → Int32) : Option ((Nat → Int32)) :=
  some (va_up (va_up iS 0 0) 1 0)
set_option maxHeartbeats 4000000 in
set_option maxRecDepth 100000 in
theorem c_X6_clear (l : Launch) (G : GT) (N : Nat) (uS : Nat → Nat) (iS : Nat → Int32) (sS : Nat → Nat → Int32) {iS' : Nat → Int32} (hf : f_X6_clear N iS sS = some iS') : CV l G yX6_clear cX6_clear 1 1 [.ref (uS 0)] (gS G uS iS sS) (gS G uS iS' sS) := by
  refine CV.of (by decide) (Nat.le_of_ble_eq_true rfl) ?_
  intro p e s m args below meth c A X hA hP hD hS ls hl
  have hl : lv_has ls 1 [(0, .ref (uS 0))] := hl
  generalize hQ : MQ below (QV G A (gS G uS iS' sS)) args s 0 0 A = QQ
  unfold f_X6_clear at hf
  refine lv_aload_n X.hx X.hb dX6_clear_0 rfl (lv_at hl 0 rfl) ?_
  refine lv_iconst (v := 0) X.hx X.hb dX6_clear_1 (by decide) ?_
  refine pf_X6_24 X hP hD hS 0 rfl rfl rfl (Nat.le_of_ble_eq_true rfl) (wo := (gS G uS (va_up iS 0 0) sS)) rfl dX6_clear_2 (fun H locs hP hD hS => ?_)
  refine lv_aload_n X.hx X.hb dX6_clear_5 rfl (lv_at hl 0 rfl) ?_
  refine lv_iconst (v := 0) X.hx X.hb dX6_clear_6 (by decide) ?_
  refine pf_X6_28 X hP hD hS 0 rfl rfl rfl (Nat.le_of_ble_eq_true rfl) (wo := (gS G uS (va_up (va_up iS 0 0) 1 0) sS)) rfl dX6_clear_7 (fun H locs hP hD hS => ?_)
  cases hf
  subst hQ
  exact r_vret X hP hD hS dX6_clear_10

def f_X6_addStep (N : Nat) (iS : Nat → Int32) (sS : Nat → Nat → Int32) (p1 : Int32) (p2 : Int32) (p3 : Int32) : Option ((Nat → Int32) × (Nat → Nat → Int32)) :=
  (if (40 : Int32) ≤ (iS 1) then some (iS, sS) else ck (iS 1) 40 (nv (upd (sS 2) (ix (iS 1)) p1) (fun g_3 => ck (iS 1) 40 (nv (upd (sS 3) (ix (iS 1)) p2) (fun g_5 => ck (iS 1) 40 (nv (upd (sS 4) (ix (iS 1)) p3) (fun g_7 => some ((va_up iS 1 ((iS 1) + 1)), (va_up (va_up (va_up sS 2 g_3) 3 g_5) 4 g_7)))))))))
set_option maxHeartbeats 4000000 in
set_option maxRecDepth 100000 in
theorem c_X6_addStep (l : Launch) (G : GT) (N : Nat) (uS : Nat → Nat) (iS : Nat → Int32) (sS : Nat → Nat → Int32) (p1 : Int32) (p2 : Int32) (p3 : Int32) {iS' : Nat → Int32} {sS' : Nat → Nat → Int32} (hf : f_X6_addStep N iS sS p1 p2 p3 = some (iS', sS')) : CV l G yX6_addStep cX6_addStep 4 1 [.ref (uS 0), .int p1, .int p2, .int p3] (gS G uS iS sS) (gS G uS iS' sS') := by
  refine CV.of (by decide) (Nat.le_of_ble_eq_true rfl) ?_
  intro p e s m args below meth c A X hA hP hD hS ls hl
  have hl : lv_has ls 4 [(0, .ref (uS 0)), (1, .int p1), (2, .int p2), (3, .int p3)] := hl
  generalize hQ : MQ below (QV G A (gS G uS iS' sS')) args s 0 0 A = QQ
  unfold f_X6_addStep at hf
  refine lv_aload_n X.hx X.hb dX6_addStep_0 rfl (lv_at hl 0 rfl) ?_
  refine gf_X6_28 X hP 0 rfl (v := .int (iS 1)) rfl dX6_addStep_1 ?_
  refine lv_bipush (v := 40) X.hx X.hb dX6_addStep_4 (by decide) ?_
  refine lv_icmp_ge (tgt := 49) X.hx X.hb dX6_addStep_6 (by decide) (fun hc_1 => ?_) (fun hc_1 => ?_)
  · replace hf := if_t hf hc_1
    cases hf
    subst hQ
    exact r_vret X hP hD hS dX6_addStep_49
  · replace hf := if_f hf hc_1
    refine lv_aload_n X.hx X.hb dX6_addStep_9 rfl (lv_at hl 0 rfl) ?_
    refine gf_X6_11 X hP 0 rfl (v := .ref (uS 3)) rfl dX6_addStep_10 ?_
    refine lv_aload_n X.hx X.hb dX6_addStep_13 rfl (lv_at hl 0 rfl) ?_
    refine gf_X6_28 X hP 0 rfl (v := .int (iS 1)) rfl dX6_addStep_14 ?_
    refine lv_iload_n X.hx X.hb dX6_addStep_17 rfl (lv_at hl 1 rfl) ?_
    obtain ⟨hi_2, hf⟩ := ck_i hf
    obtain ⟨g_3, eg_3, hf⟩ := nv_i hf
    refine r_iast X hP hD hS 1 (f := (sS 2)) rfl hi_2 (wo := (gS G uS iS (va_up sS 2 g_3))) (by subst eg_3; rfl) dX6_addStep_18 (fun H locs hP hD hS => ?_)
    refine lv_aload_n X.hx X.hb dX6_addStep_19 rfl (lv_at hl 0 rfl) ?_
    refine gf_X6_15 X hP 0 rfl (v := .ref (uS 4)) rfl dX6_addStep_20 ?_
    refine lv_aload_n X.hx X.hb dX6_addStep_23 rfl (lv_at hl 0 rfl) ?_
    refine gf_X6_28 X hP 0 rfl (v := .int (iS 1)) rfl dX6_addStep_24 ?_
    refine lv_iload_n X.hx X.hb dX6_addStep_27 rfl (lv_at hl 2 rfl) ?_
    obtain ⟨hi_4, hf⟩ := ck_i hf
    obtain ⟨g_5, eg_5, hf⟩ := nv_i hf
    refine r_iast X hP hD hS 2 (f := (sS 3)) rfl hi_4 (wo := (gS G uS iS (va_up (va_up sS 2 g_3) 3 g_5))) (by subst eg_5; rfl) dX6_addStep_28 (fun H locs hP hD hS => ?_)
    refine lv_aload_n X.hx X.hb dX6_addStep_29 rfl (lv_at hl 0 rfl) ?_
    refine gf_X6_18 X hP 0 rfl (v := .ref (uS 5)) rfl dX6_addStep_30 ?_
    refine lv_aload_n X.hx X.hb dX6_addStep_33 rfl (lv_at hl 0 rfl) ?_
    refine gf_X6_28 X hP 0 rfl (v := .int (iS 1)) rfl dX6_addStep_34 ?_
    refine lv_iload_n X.hx X.hb dX6_addStep_37 rfl (lv_at hl 3 rfl) ?_
    obtain ⟨hi_6, hf⟩ := ck_i hf
    obtain ⟨g_7, eg_7, hf⟩ := nv_i hf
    refine r_iast X hP hD hS 3 (f := (sS 4)) rfl hi_6 (wo := (gS G uS iS (va_up (va_up (va_up sS 2 g_3) 3 g_5) 4 g_7))) (by subst eg_7; rfl) dX6_addStep_38 (fun H locs hP hD hS => ?_)
    refine lv_aload_n X.hx X.hb dX6_addStep_39 rfl (lv_at hl 0 rfl) ?_
    refine lv_dup X.hx X.hb dX6_addStep_40 rfl ?_
    refine gf_X6_28 X hP 0 rfl (v := .int (iS 1)) rfl dX6_addStep_41 ?_
    refine lv_iconst (v := 1) X.hx X.hb dX6_addStep_44 (by decide) ?_
    refine lv_iadd X.hx X.hb dX6_addStep_45 ?_
    refine pf_X6_28 X hP hD hS 0 rfl rfl rfl (Nat.le_of_ble_eq_true rfl) (wo := (gS G uS (va_up iS 1 ((iS 1) + 1)) (va_up (va_up (va_up sS 2 g_3) 3 g_5) 4 g_7))) rfl dX6_addStep_46 (fun H locs hP hD hS => ?_)
    cases hf
    subst hQ
    exact r_vret X hP hD hS dX6_addStep_49

def f_X6_compares (N : Nat) (iS : Nat → Int32) (sS : Nat → Nat → Int32) (p1 : Int32) (p2 : Int32) : Option (Int32) :=
  ck p2 40 ((if ((sS 3) (ix p2)) = 60 then ck p2 40 ((if ((sS 4) (ix p2)) ≤ p1 then some 0 else some 1)) else ck p2 40 ((if ((sS 3) (ix p2)) = 61 then ck p2 40 ((if p1 = ((sS 4) (ix p2)) then some 1 else some 0)) else ck p2 40 ((if p1 ≤ ((sS 4) (ix p2)) then some 0 else some 1))))))
set_option maxHeartbeats 4000000 in
set_option maxRecDepth 100000 in
theorem c_X6_compares (l : Launch) (G : GT) (N : Nat) (uS : Nat → Nat) (iS : Nat → Int32) (sS : Nat → Nat → Int32) (p1 : Int32) (p2 : Int32) {r : Int32} (hf : f_X6_compares N iS sS p1 p2 = some r) : CI l G yX6_compares cX6_compares 3 .boolean 1 [.ref (uS 0), .int p1, .int p2] (gS G uS iS sS) r (gS G uS iS sS) := by
  refine CI.of (by decide) (Nat.le_of_ble_eq_true rfl) ?_
  intro p e s m args below meth c A X hA hP hD hS ls hl
  have hl : lv_has ls 3 [(0, .ref (uS 0)), (1, .int p1), (2, .int p2)] := hl
  generalize hQ : MQ below (QI G A r (gS G uS iS sS)) args s 0 0 A = QQ
  unfold f_X6_compares at hf
  refine lv_aload_n X.hx X.hb dX6_compares_0 rfl (lv_at hl 0 rfl) ?_
  refine gf_X6_15 X hP 0 rfl (v := .ref (uS 4)) rfl dX6_compares_1 ?_
  refine lv_iload_n X.hx X.hb dX6_compares_4 rfl (lv_at hl 2 rfl) ?_
  obtain ⟨hi_1, hf⟩ := ck_i hf
  refine r_iald X hP 2 (f := (sS 3)) rfl hi_1 dX6_compares_5 ?_
  refine lv_bipush (v := 60) X.hx X.hb dX6_compares_6 (by decide) ?_
  refine lv_icmp_ne (tgt := 27) X.hx X.hb dX6_compares_8 (by decide) (fun hc_2 => ?_) (fun hc_2 => ?_)
  · replace hf := if_f hf hc_2
    refine lv_aload_n X.hx X.hb dX6_compares_27 rfl (lv_at hl 0 rfl) ?_
    refine gf_X6_15 X hP 0 rfl (v := .ref (uS 4)) rfl dX6_compares_28 ?_
    refine lv_iload_n X.hx X.hb dX6_compares_31 rfl (lv_at hl 2 rfl) ?_
    obtain ⟨hi_3, hf⟩ := ck_i hf
    refine r_iald X hP 2 (f := (sS 3)) rfl hi_3 dX6_compares_32 ?_
    refine lv_bipush (v := 61) X.hx X.hb dX6_compares_33 (by decide) ?_
    refine lv_icmp_ne (tgt := 56) X.hx X.hb dX6_compares_35 (by decide) (fun hc_4 => ?_) (fun hc_4 => ?_)
    · replace hf := if_f hf hc_4
      refine lv_iload_n X.hx X.hb dX6_compares_56 rfl (lv_at hl 1 rfl) ?_
      refine lv_aload_n X.hx X.hb dX6_compares_57 rfl (lv_at hl 0 rfl) ?_
      refine gf_X6_18 X hP 0 rfl (v := .ref (uS 5)) rfl dX6_compares_58 ?_
      refine lv_iload_n X.hx X.hb dX6_compares_61 rfl (lv_at hl 2 rfl) ?_
      obtain ⟨hi_5, hf⟩ := ck_i hf
      refine r_iald X hP 3 (f := (sS 4)) rfl hi_5 dX6_compares_62 ?_
      refine lv_icmp_le (tgt := 70) X.hx X.hb dX6_compares_63 (by decide) (fun hc_6 => ?_) (fun hc_6 => ?_)
      · replace hf := if_t hf hc_6
        refine lv_iconst (v := 0) X.hx X.hb dX6_compares_70 (by decide) ?_
        cases hf
        subst hQ
        exact r_zret X hP hD hS (by decide) dX6_compares_71
      · replace hf := if_f hf hc_6
        refine lv_iconst (v := 1) X.hx X.hb dX6_compares_66 (by decide) ?_
        refine lv_goto (tgt := 71) X.hx X.hb dX6_compares_67 (by decide) ?_
        cases hf
        subst hQ
        exact r_zret X hP hD hS (by decide) dX6_compares_71
    · replace hf := if_t hf hc_4
      refine lv_iload_n X.hx X.hb dX6_compares_38 rfl (lv_at hl 1 rfl) ?_
      refine lv_aload_n X.hx X.hb dX6_compares_39 rfl (lv_at hl 0 rfl) ?_
      refine gf_X6_18 X hP 0 rfl (v := .ref (uS 5)) rfl dX6_compares_40 ?_
      refine lv_iload_n X.hx X.hb dX6_compares_43 rfl (lv_at hl 2 rfl) ?_
      obtain ⟨hi_7, hf⟩ := ck_i hf
      refine r_iald X hP 3 (f := (sS 4)) rfl hi_7 dX6_compares_44 ?_
      refine lv_icmp_ne (tgt := 52) X.hx X.hb dX6_compares_45 (by decide) (fun hc_8 => ?_) (fun hc_8 => ?_)
      · replace hf := if_f hf hc_8
        refine lv_iconst (v := 0) X.hx X.hb dX6_compares_52 (by decide) ?_
        refine lv_goto (tgt := 71) X.hx X.hb dX6_compares_53 (by decide) ?_
        cases hf
        subst hQ
        exact r_zret X hP hD hS (by decide) dX6_compares_71
      · replace hf := if_t hf hc_8
        refine lv_iconst (v := 1) X.hx X.hb dX6_compares_48 (by decide) ?_
        refine lv_goto (tgt := 71) X.hx X.hb dX6_compares_49 (by decide) ?_
        cases hf
        subst hQ
        exact r_zret X hP hD hS (by decide) dX6_compares_71
  · replace hf := if_t hf hc_2
    refine lv_iload_n X.hx X.hb dX6_compares_11 rfl (lv_at hl 1 rfl) ?_
    refine lv_aload_n X.hx X.hb dX6_compares_12 rfl (lv_at hl 0 rfl) ?_
    refine gf_X6_18 X hP 0 rfl (v := .ref (uS 5)) rfl dX6_compares_13 ?_
    refine lv_iload_n X.hx X.hb dX6_compares_16 rfl (lv_at hl 2 rfl) ?_
    obtain ⟨hi_9, hf⟩ := ck_i hf
    refine r_iald X hP 3 (f := (sS 4)) rfl hi_9 dX6_compares_17 ?_
    refine lv_icmp_ge (tgt := 25) X.hx X.hb dX6_compares_18 (by decide) (fun hc_10 => ?_) (fun hc_10 => ?_)
    · replace hf := if_t hf hc_10
      refine lv_iconst (v := 0) X.hx X.hb dX6_compares_25 (by decide) ?_
      cases hf
      subst hQ
      exact r_zret X hP hD hS (by decide) dX6_compares_26
    · replace hf := if_f hf hc_10
      refine lv_iconst (v := 1) X.hx X.hb dX6_compares_21 (by decide) ?_
      refine lv_goto (tgt := 26) X.hx X.hb dX6_compares_22 (by decide) ?_
      cases hf
      subst hQ
      exact r_zret X hP hD hS (by decide) dX6_compares_26

def f_X6_copyFrom (N : Nat) (iS : Nat → Int32) (sS : Nat → Nat → Int32) (iS2 : Nat → Int32) (sS2 : Nat → Nat → Int32) : Option ((Nat → Int32) × (Nat → Nat → Int32)) :=
  nv (va_cpy (sS2 2) (sS 2) 0 0 40) (fun g_1 => nv (va_cpy (sS2 3) (sS 3) 0 0 40) (fun g_2 => nv (va_cpy (sS2 4) (sS 4) 0 0 40) (fun g_3 => some ((va_up (va_up iS 0 (iS2 0)) 1 (iS2 1)), (va_up (va_up (va_up sS 2 g_1) 3 g_2) 4 g_3)))))
set_option maxHeartbeats 4000000 in
set_option maxRecDepth 100000 in
theorem c_X6_copyFrom (l : Launch) (G : GT) (N : Nat) (uS uS2 : Nat → Nat) (iS : Nat → Int32) (sS : Nat → Nat → Int32) (iS2 : Nat → Int32) (sS2 : Nat → Nat → Int32) {iS' : Nat → Int32} {sS' : Nat → Nat → Int32} (hf : f_X6_copyFrom N iS sS iS2 sS2 = some (iS', sS')) : CV l G yX6_copyFrom cX6_copyFrom 2 2 [.ref (uS 0), .ref (uS2 0)] (gS G uS iS sS ++ gS G uS2 iS2 sS2) (gS G uS iS' sS' ++ gS G uS2 iS2 sS2) := by
  refine CV.of (by decide) (Nat.le_of_ble_eq_true rfl) ?_
  intro p e s m args below meth c A X hA hP hD hS ls hl
  have hl : lv_has ls 2 [(0, .ref (uS 0)), (1, .ref (uS2 0))] := hl
  generalize hQ : MQ below (QV G A (gS G uS iS' sS' ++ gS G uS2 iS2 sS2)) args s 0 0 A = QQ
  unfold f_X6_copyFrom at hf
  refine lv_aload_n X.hx X.hb dX6_copyFrom_0 rfl (lv_at hl 0 rfl) ?_
  refine lv_aload_n X.hx X.hb dX6_copyFrom_1 rfl (lv_at hl 1 rfl) ?_
  refine gf_X6_24 X hP 5 rfl (v := .int (iS2 0)) rfl dX6_copyFrom_2 ?_
  refine pf_X6_24 X hP hD hS 0 rfl rfl rfl (Nat.le_of_ble_eq_true rfl) (wo := (gS G uS (va_up iS 0 (iS2 0)) sS ++ gS G uS2 iS2 sS2)) rfl dX6_copyFrom_5 (fun H locs hP hD hS => ?_)
  refine lv_aload_n X.hx X.hb dX6_copyFrom_8 rfl (lv_at hl 0 rfl) ?_
  refine lv_aload_n X.hx X.hb dX6_copyFrom_9 rfl (lv_at hl 1 rfl) ?_
  refine gf_X6_28 X hP 5 rfl (v := .int (iS2 1)) rfl dX6_copyFrom_10 ?_
  refine pf_X6_28 X hP hD hS 0 rfl rfl rfl (Nat.le_of_ble_eq_true rfl) (wo := (gS G uS (va_up (va_up iS 0 (iS2 0)) 1 (iS2 1)) sS ++ gS G uS2 iS2 sS2)) rfl dX6_copyFrom_13 (fun H locs hP hD hS => ?_)
  refine lv_aload_n X.hx X.hb dX6_copyFrom_16 rfl (lv_at hl 1 rfl) ?_
  refine gf_X6_11 X hP 5 rfl (v := .ref (uS2 3)) rfl dX6_copyFrom_17 ?_
  refine lv_iconst (v := 0) X.hx X.hb dX6_copyFrom_20 (by decide) ?_
  refine lv_aload_n X.hx X.hb dX6_copyFrom_21 rfl (lv_at hl 0 rfl) ?_
  refine gf_X6_11 X hP 0 rfl (v := .ref (uS 3)) rfl dX6_copyFrom_22 ?_
  refine lv_iconst (v := 0) X.hx X.hb dX6_copyFrom_25 (by decide) ?_
  refine lv_bipush (v := 40) X.hx X.hb dX6_copyFrom_26 (by decide) ?_
  obtain ⟨g_1, eg_1, hf⟩ := nv_i hf
  refine r_copyi X tw_1156 hP hD hS 6 1 (f := (sS2 2)) (g := (sS 2)) rfl rfl (by decide) (by decide) (by decide) (Nat.le_of_ble_eq_true rfl) (Nat.le_of_ble_eq_true rfl) hl.1 (Nat.le_of_ble_eq_true rfl) (Nat.le_of_ble_eq_true rfl) (wo := (gS G uS (va_up (va_up iS 0 (iS2 0)) 1 (iS2 1)) (va_up sS 2 g_1) ++ gS G uS2 iS2 sS2)) (by subst eg_1; rfl) dX6_copyFrom_28 (fun H locs hP hD hS => ?_)
  refine lv_aload_n X.hx X.hb dX6_copyFrom_31 rfl (lv_at hl 1 rfl) ?_
  refine gf_X6_15 X hP 5 rfl (v := .ref (uS2 4)) rfl dX6_copyFrom_32 ?_
  refine lv_iconst (v := 0) X.hx X.hb dX6_copyFrom_35 (by decide) ?_
  refine lv_aload_n X.hx X.hb dX6_copyFrom_36 rfl (lv_at hl 0 rfl) ?_
  refine gf_X6_15 X hP 0 rfl (v := .ref (uS 4)) rfl dX6_copyFrom_37 ?_
  refine lv_iconst (v := 0) X.hx X.hb dX6_copyFrom_40 (by decide) ?_
  refine lv_bipush (v := 40) X.hx X.hb dX6_copyFrom_41 (by decide) ?_
  obtain ⟨g_2, eg_2, hf⟩ := nv_i hf
  refine r_copyi X tw_1156 hP hD hS 7 2 (f := (sS2 3)) (g := (sS 3)) rfl rfl (by decide) (by decide) (by decide) (Nat.le_of_ble_eq_true rfl) (Nat.le_of_ble_eq_true rfl) hl.1 (Nat.le_of_ble_eq_true rfl) (Nat.le_of_ble_eq_true rfl) (wo := (gS G uS (va_up (va_up iS 0 (iS2 0)) 1 (iS2 1)) (va_up (va_up sS 2 g_1) 3 g_2) ++ gS G uS2 iS2 sS2)) (by subst eg_2; rfl) dX6_copyFrom_43 (fun H locs hP hD hS => ?_)
  refine lv_aload_n X.hx X.hb dX6_copyFrom_46 rfl (lv_at hl 1 rfl) ?_
  refine gf_X6_18 X hP 5 rfl (v := .ref (uS2 5)) rfl dX6_copyFrom_47 ?_
  refine lv_iconst (v := 0) X.hx X.hb dX6_copyFrom_50 (by decide) ?_
  refine lv_aload_n X.hx X.hb dX6_copyFrom_51 rfl (lv_at hl 0 rfl) ?_
  refine gf_X6_18 X hP 0 rfl (v := .ref (uS 5)) rfl dX6_copyFrom_52 ?_
  refine lv_iconst (v := 0) X.hx X.hb dX6_copyFrom_55 (by decide) ?_
  refine lv_bipush (v := 40) X.hx X.hb dX6_copyFrom_56 (by decide) ?_
  obtain ⟨g_3, eg_3, hf⟩ := nv_i hf
  refine r_copyi X tw_1156 hP hD hS 8 3 (f := (sS2 4)) (g := (sS 4)) rfl rfl (by decide) (by decide) (by decide) (Nat.le_of_ble_eq_true rfl) (Nat.le_of_ble_eq_true rfl) hl.1 (Nat.le_of_ble_eq_true rfl) (Nat.le_of_ble_eq_true rfl) (wo := (gS G uS (va_up (va_up iS 0 (iS2 0)) 1 (iS2 1)) (va_up (va_up (va_up sS 2 g_1) 3 g_2) 4 g_3) ++ gS G uS2 iS2 sS2)) (by subst eg_3; rfl) dX6_copyFrom_58 (fun H locs hP hD hS => ?_)
  cases hf
  subst hQ
  exact r_vret X hP hD hS dX6_copyFrom_61

def f_X6_isTrue (N : Nat) (iS : Nat → Int32) (sS : Nat → Nat → Int32) (iM : Nat → Int32) (sM : Nat → Nat → Int32) (iC : Nat → Int32) (tC : Nat → Nat → Int64) (sC : Nat → Nat → Int32) (p1 : Int32) (p2 : Int32) : Option (Int32) :=
  ck p1 40 ((if ((sS 2) (ix p1)) = 3 then ck p1 40 (bd (f_X10_cellOf N p2 ((sS 4) (ix p1))) (fun r_4 => ck r_4 35 ((if ((sM 10) (ix r_4)) ≤ 0 then some 0 else some 1)))) else (if ((sS 2) (ix p1)) = 4 then bd (f_X4_known N iM sM iC tC sC p2) (fun r_9 => ck p1 40 (bd (f_X10_has N r_9 ((sS 4) (ix p1))) (fun r_12 => zb r_12 (some r_12)))) else (if ((sS 2) (ix p1)) = 16 then bd (f_X10_has N (iM 2) p2) (fun r_16 => zb r_16 (some r_16)) else (if ((sS 2) (ix p1)) = 17 then bd (f_X10_has N (iM 3) p2) (fun r_20 => zb r_20 (some r_20)) else (if ((sS 2) (ix p1)) = 18 then bd (f_X4_wanting N iM sM iC tC sC p2) (fun r_24 => (if r_24 = 0 then some 1 else some 0)) else (if ((sS 2) (ix p1)) = 19 then bd (f_X4_isSoldOut N iM sM iC tC sC p2) (fun r_28 => zb r_28 (some r_28)) else (if ((sS 2) (ix p1)) = 20 then ck p2 7 (bd (f_X6_compares N iS sS ((sM 6) (ix p2)) p1) (fun r_33 => zb r_33 (some r_33))) else (if ((sS 2) (ix p1)) = 21 then bd (f_X4_known N iM sM iC tC sC p2) (fun r_37 => bd (f_J6_bitCount_0f7a4 N r_37) (fun r_39 => bd (f_X6_compares N iS sS r_39 p1) (fun r_41 => zb r_41 (some r_41)))) else (if ((sS 2) (ix p1)) = 22 then ck p2 7 (bd (f_X6_compares N iS sS ((sM 7) (ix p2)) p1) (fun r_46 => zb r_46 (some r_46))) else bd (f_X6_compares N iS sS p2 p1) (fun r_49 => zb r_49 (some r_49))))))))))))
set_option maxHeartbeats 4000000 in
set_option maxRecDepth 100000 in
theorem c_X6_isTrue (l : Launch) (G : GT) (N : Nat) (uS uM uC : Nat → Nat) (iS : Nat → Int32) (sS : Nat → Nat → Int32) (iM : Nat → Int32) (sM : Nat → Nat → Int32) (iC : Nat → Int32) (tC : Nat → Nat → Int64) (sC : Nat → Nat → Int32) (p1 : Int32) (p2 : Int32) {r : Int32} (hf : f_X6_isTrue N iS sS iM sM iC tC sC p1 p2 = some r) : CI l G yX6_isTrue cX6_isTrue 4 .boolean 3 [.ref (uS 0), .int p1, .int p2, .ref (uM 0)] (gS G uS iS sS ++ gM G uM (uC 0) iM sM ++ gC G uC iC tC sC) r (gS G uS iS sS ++ gM G uM (uC 0) iM sM ++ gC G uC iC tC sC) := by
  refine CI.of (by decide) (Nat.le_of_ble_eq_true rfl) ?_
  intro p e s m args below meth c A X hA hP hD hS ls hl
  have hl : lv_has ls 4 [(0, .ref (uS 0)), (1, .int p1), (2, .int p2), (3, .ref (uM 0))] := hl
  generalize hQ : MQ below (QI G A r (gS G uS iS sS ++ gM G uM (uC 0) iM sM ++ gC G uC iC tC sC)) args s 0 0 A = QQ
  unfold f_X6_isTrue at hf
  refine lv_aload_n X.hx X.hb dX6_isTrue_0 rfl (lv_at hl 0 rfl) ?_
  refine gf_X6_11 X hP 0 rfl (v := .ref (uS 3)) rfl dX6_isTrue_1 ?_
  refine lv_iload_n X.hx X.hb dX6_isTrue_4 rfl (lv_at hl 1 rfl) ?_
  obtain ⟨hi_1, hf⟩ := ck_i hf
  refine r_iald X hP 1 (f := (sS 2)) rfl hi_1 dX6_isTrue_5 ?_
  by_cases hc_2 : ((sS 2) (ix p1)) = 3
  · replace hf := if_t hf hc_2
    refine lv_tableIn (tgt := 153) X.hx X.hb dX6_isTrue_6 (by rw [hc_2]; decide) (by rw [hc_2]; decide) (by rw [hc_2]; rfl) (by decide) ?_
    refine lv_aload_n X.hx X.hb dX6_isTrue_153 rfl (lv_at hl 3 rfl) ?_
    refine gf_X6_77 X hP 5 rfl (v := .ref (uM 11)) rfl dX6_isTrue_154 ?_
    refine lv_iload_n X.hx X.hb dX6_isTrue_157 rfl (lv_at hl 2 rfl) ?_
    refine lv_aload_n X.hx X.hb dX6_isTrue_158 rfl (lv_at hl 0 rfl) ?_
    refine gf_X6_18 X hP 0 rfl (v := .ref (uS 5)) rfl dX6_isTrue_159 ?_
    refine lv_iload_n X.hx X.hb dX6_isTrue_162 rfl (lv_at hl 1 rfl) ?_
    obtain ⟨hi_3, hf⟩ := ck_i hf
    refine r_iald X hP 3 (f := (sS 4)) rfl hi_3 dX6_isTrue_163 ?_
    obtain ⟨r_4, hc_5, hf⟩ := bd_i hf
    refine r_cn0 (As := [.int p2, .int ((sS 4) (ix p1))]) (rest := [.ref (uM 11)]) X sm_X6_80 (c_X10_cellOf l G N p2 ((sS 4) (ix p1)) hc_5) hP hD hS hA rfl hl.1 (lv_room (Nat.le_of_ble_eq_true rfl)) ⟨Nat.le_of_ble_eq_true rfl, Nat.le_of_ble_eq_true rfl⟩ ⟨Nat.zero_le _, Nat.zero_le _⟩ dX6_isTrue_164 (fun H locs hP hD hS => ?_)
    obtain ⟨hi_6, hf⟩ := ck_i hf
    refine r_iald X hP 10 (f := (sM 10)) rfl hi_6 dX6_isTrue_167 ?_
    refine lv_if_le (tgt := 175) X.hx X.hb dX6_isTrue_168 (by decide) (fun hc_7 => ?_) (fun hc_7 => ?_)
    · replace hf := if_t hf hc_7
      refine lv_iconst (v := 0) X.hx X.hb dX6_isTrue_175 (by decide) ?_
      cases hf
      subst hQ
      exact r_zret X hP hD hS (by decide) dX6_isTrue_176
    · replace hf := if_f hf hc_7
      refine lv_iconst (v := 1) X.hx X.hb dX6_isTrue_171 (by decide) ?_
      refine lv_goto (tgt := 176) X.hx X.hb dX6_isTrue_172 (by decide) ?_
      cases hf
      subst hQ
      exact r_zret X hP hD hS (by decide) dX6_isTrue_176
  replace hf := if_f hf hc_2
  by_cases hc_8 : ((sS 2) (ix p1)) = 4
  · replace hf := if_t hf hc_8
    refine lv_tableIn (tgt := 138) X.hx X.hb dX6_isTrue_6 (by rw [hc_8]; decide) (by rw [hc_8]; decide) (by rw [hc_8]; rfl) (by decide) ?_
    refine lv_aload_n X.hx X.hb dX6_isTrue_138 rfl (lv_at hl 3 rfl) ?_
    refine lv_iload_n X.hx X.hb dX6_isTrue_139 rfl (lv_at hl 2 rfl) ?_
    obtain ⟨r_9, hc_10, hf⟩ := bd_i hf
    refine r_bvi (gS G uS iS sS) ([] : va_W) (As := [.int p2]) (rest := []) X sm_X6_74 (c_X4_known l G N uM uC iM sM iC tC sC p2 hc_10) hP hD hS hA (by simp only [List.append_assoc, List.append_nil, List.nil_append]) (wo := (gS G uS iS sS ++ gM G uM (uC 0) iM sM ++ gC G uC iC tC sC)) (by simp only [List.append_assoc, List.append_nil, List.nil_append]) 0 rfl rfl rfl hl.1 (lv_room (Nat.le_of_ble_eq_true rfl)) ⟨Nat.le_of_ble_eq_true rfl, Nat.le_of_ble_eq_true rfl⟩ ⟨Nat.zero_le _, Nat.zero_le _⟩ dX6_isTrue_140 (fun H locs hP hD hS => ?_)
    refine lv_aload_n X.hx X.hb dX6_isTrue_143 rfl (lv_at hl 0 rfl) ?_
    refine gf_X6_18 X hP 0 rfl (v := .ref (uS 5)) rfl dX6_isTrue_144 ?_
    refine lv_iload_n X.hx X.hb dX6_isTrue_147 rfl (lv_at hl 1 rfl) ?_
    obtain ⟨hi_11, hf⟩ := ck_i hf
    refine r_iald X hP 3 (f := (sS 4)) rfl hi_11 dX6_isTrue_148 ?_
    obtain ⟨r_12, hc_13, hf⟩ := bd_i hf
    refine r_cn0 (As := [.int r_9, .int ((sS 4) (ix p1))]) (rest := []) X sm_X6_59 (c_X10_has l G N r_9 ((sS 4) (ix p1)) hc_13) hP hD hS hA rfl hl.1 (lv_room (Nat.le_of_ble_eq_true rfl)) ⟨Nat.le_of_ble_eq_true rfl, Nat.le_of_ble_eq_true rfl⟩ ⟨Nat.zero_le _, Nat.zero_le _⟩ dX6_isTrue_149 (fun H locs hP hD hS => ?_)
    obtain ⟨hb_14, hf⟩ := zb_i hf
    cases hf
    subst hQ
    exact r_zret X hP hD hS hb_14 dX6_isTrue_152
  replace hf := if_f hf hc_8
  by_cases hc_15 : ((sS 2) (ix p1)) = 16
  · replace hf := if_t hf hc_15
    refine lv_tableIn (tgt := 100) X.hx X.hb dX6_isTrue_6 (by rw [hc_15]; decide) (by rw [hc_15]; decide) (by rw [hc_15]; rfl) (by decide) ?_
    refine lv_aload_n X.hx X.hb dX6_isTrue_100 rfl (lv_at hl 3 rfl) ?_
    refine gf_X6_54 X hP 5 rfl (v := .int (iM 2)) rfl dX6_isTrue_101 ?_
    refine lv_iload_n X.hx X.hb dX6_isTrue_104 rfl (lv_at hl 2 rfl) ?_
    obtain ⟨r_16, hc_17, hf⟩ := bd_i hf
    refine r_cn0 (As := [.int (iM 2), .int p2]) (rest := []) X sm_X6_59 (c_X10_has l G N (iM 2) p2 hc_17) hP hD hS hA rfl hl.1 (lv_room (Nat.le_of_ble_eq_true rfl)) ⟨Nat.le_of_ble_eq_true rfl, Nat.le_of_ble_eq_true rfl⟩ ⟨Nat.zero_le _, Nat.zero_le _⟩ dX6_isTrue_105 (fun H locs hP hD hS => ?_)
    obtain ⟨hb_18, hf⟩ := zb_i hf
    cases hf
    subst hQ
    exact r_zret X hP hD hS hb_18 dX6_isTrue_108
  replace hf := if_f hf hc_15
  by_cases hc_19 : ((sS 2) (ix p1)) = 17
  · replace hf := if_t hf hc_19
    refine lv_tableIn (tgt := 109) X.hx X.hb dX6_isTrue_6 (by rw [hc_19]; decide) (by rw [hc_19]; decide) (by rw [hc_19]; rfl) (by decide) ?_
    refine lv_aload_n X.hx X.hb dX6_isTrue_109 rfl (lv_at hl 3 rfl) ?_
    refine gf_X6_63 X hP 5 rfl (v := .int (iM 3)) rfl dX6_isTrue_110 ?_
    refine lv_iload_n X.hx X.hb dX6_isTrue_113 rfl (lv_at hl 2 rfl) ?_
    obtain ⟨r_20, hc_21, hf⟩ := bd_i hf
    refine r_cn0 (As := [.int (iM 3), .int p2]) (rest := []) X sm_X6_59 (c_X10_has l G N (iM 3) p2 hc_21) hP hD hS hA rfl hl.1 (lv_room (Nat.le_of_ble_eq_true rfl)) ⟨Nat.le_of_ble_eq_true rfl, Nat.le_of_ble_eq_true rfl⟩ ⟨Nat.zero_le _, Nat.zero_le _⟩ dX6_isTrue_114 (fun H locs hP hD hS => ?_)
    obtain ⟨hb_22, hf⟩ := zb_i hf
    cases hf
    subst hQ
    exact r_zret X hP hD hS hb_22 dX6_isTrue_117
  replace hf := if_f hf hc_19
  by_cases hc_23 : ((sS 2) (ix p1)) = 18
  · replace hf := if_t hf hc_23
    refine lv_tableIn (tgt := 118) X.hx X.hb dX6_isTrue_6 (by rw [hc_23]; decide) (by rw [hc_23]; decide) (by rw [hc_23]; rfl) (by decide) ?_
    refine lv_aload_n X.hx X.hb dX6_isTrue_118 rfl (lv_at hl 3 rfl) ?_
    refine lv_iload_n X.hx X.hb dX6_isTrue_119 rfl (lv_at hl 2 rfl) ?_
    obtain ⟨r_24, hc_25, hf⟩ := bd_i hf
    refine r_bvi (gS G uS iS sS) ([] : va_W) (As := [.int p2]) (rest := []) X sm_X6_66 (c_X4_wanting l G N uM uC iM sM iC tC sC p2 hc_25) hP hD hS hA (by simp only [List.append_assoc, List.append_nil, List.nil_append]) (wo := (gS G uS iS sS ++ gM G uM (uC 0) iM sM ++ gC G uC iC tC sC)) (by simp only [List.append_assoc, List.append_nil, List.nil_append]) 0 rfl rfl rfl hl.1 (lv_room (Nat.le_of_ble_eq_true rfl)) ⟨Nat.le_of_ble_eq_true rfl, Nat.le_of_ble_eq_true rfl⟩ ⟨Nat.zero_le _, Nat.zero_le _⟩ dX6_isTrue_120 (fun H locs hP hD hS => ?_)
    refine lv_if_ne (tgt := 130) X.hx X.hb dX6_isTrue_123 (by decide) (fun hc_26 => ?_) (fun hc_26 => ?_)
    · replace hf := if_f hf hc_26
      refine lv_iconst (v := 0) X.hx X.hb dX6_isTrue_130 (by decide) ?_
      cases hf
      subst hQ
      exact r_zret X hP hD hS (by decide) dX6_isTrue_131
    · replace hf := if_t hf hc_26
      refine lv_iconst (v := 1) X.hx X.hb dX6_isTrue_126 (by decide) ?_
      refine lv_goto (tgt := 131) X.hx X.hb dX6_isTrue_127 (by decide) ?_
      cases hf
      subst hQ
      exact r_zret X hP hD hS (by decide) dX6_isTrue_131
  replace hf := if_f hf hc_23
  by_cases hc_27 : ((sS 2) (ix p1)) = 19
  · replace hf := if_t hf hc_27
    refine lv_tableIn (tgt := 132) X.hx X.hb dX6_isTrue_6 (by rw [hc_27]; decide) (by rw [hc_27]; decide) (by rw [hc_27]; rfl) (by decide) ?_
    refine lv_aload_n X.hx X.hb dX6_isTrue_132 rfl (lv_at hl 3 rfl) ?_
    refine lv_iload_n X.hx X.hb dX6_isTrue_133 rfl (lv_at hl 2 rfl) ?_
    obtain ⟨r_28, hc_29, hf⟩ := bd_i hf
    refine r_bvi (gS G uS iS sS) ([] : va_W) (As := [.int p2]) (rest := []) X sm_X6_70 (c_X4_isSoldOut l G N uM uC iM sM iC tC sC p2 hc_29) hP hD hS hA (by simp only [List.append_assoc, List.append_nil, List.nil_append]) (wo := (gS G uS iS sS ++ gM G uM (uC 0) iM sM ++ gC G uC iC tC sC)) (by simp only [List.append_assoc, List.append_nil, List.nil_append]) 0 rfl rfl rfl hl.1 (lv_room (Nat.le_of_ble_eq_true rfl)) ⟨Nat.le_of_ble_eq_true rfl, Nat.le_of_ble_eq_true rfl⟩ ⟨Nat.zero_le _, Nat.zero_le _⟩ dX6_isTrue_134 (fun H locs hP hD hS => ?_)
    obtain ⟨hb_30, hf⟩ := zb_i hf
    cases hf
    subst hQ
    exact r_zret X hP hD hS hb_30 dX6_isTrue_137
  replace hf := if_f hf hc_27
  by_cases hc_31 : ((sS 2) (ix p1)) = 20
  · replace hf := if_t hf hc_31
    refine lv_tableIn (tgt := 177) X.hx X.hb dX6_isTrue_6 (by rw [hc_31]; decide) (by rw [hc_31]; decide) (by rw [hc_31]; rfl) (by decide) ?_
    refine lv_aload_n X.hx X.hb dX6_isTrue_177 rfl (lv_at hl 0 rfl) ?_
    refine lv_aload_n X.hx X.hb dX6_isTrue_178 rfl (lv_at hl 3 rfl) ?_
    refine gf_X6_84 X hP 5 rfl (v := .ref (uM 7)) rfl dX6_isTrue_179 ?_
    refine lv_iload_n X.hx X.hb dX6_isTrue_182 rfl (lv_at hl 2 rfl) ?_
    obtain ⟨hi_32, hf⟩ := ck_i hf
    refine r_iald X hP 6 (f := (sM 6)) rfl hi_32 dX6_isTrue_183 ?_
    refine lv_iload_n X.hx X.hb dX6_isTrue_184 rfl (lv_at hl 1 rfl) ?_
    obtain ⟨r_33, hc_34, hf⟩ := bd_i hf
    refine r_bvi ([] : va_W) (gM G uM (uC 0) iM sM ++ gC G uC iC tC sC) (As := [.int ((sM 6) (ix p2)), .int p1]) (rest := []) X sm_X6_87 (c_X6_compares l G N uS iS sS ((sM 6) (ix p2)) p1 hc_34) hP hD hS hA (by simp only [List.append_assoc, List.append_nil, List.nil_append]) (wo := (gS G uS iS sS ++ gM G uM (uC 0) iM sM ++ gC G uC iC tC sC)) (by simp only [List.append_assoc, List.append_nil, List.nil_append]) 0 rfl rfl rfl hl.1 (lv_room (Nat.le_of_ble_eq_true rfl)) ⟨Nat.le_of_ble_eq_true rfl, Nat.le_of_ble_eq_true rfl⟩ ⟨Nat.zero_le _, Nat.zero_le _⟩ dX6_isTrue_185 (fun H locs hP hD hS => ?_)
    obtain ⟨hb_35, hf⟩ := zb_i hf
    cases hf
    subst hQ
    exact r_zret X hP hD hS hb_35 dX6_isTrue_188
  replace hf := if_f hf hc_31
  by_cases hc_36 : ((sS 2) (ix p1)) = 21
  · replace hf := if_t hf hc_36
    refine lv_tableIn (tgt := 189) X.hx X.hb dX6_isTrue_6 (by rw [hc_36]; decide) (by rw [hc_36]; decide) (by rw [hc_36]; rfl) (by decide) ?_
    refine lv_aload_n X.hx X.hb dX6_isTrue_189 rfl (lv_at hl 0 rfl) ?_
    refine lv_aload_n X.hx X.hb dX6_isTrue_190 rfl (lv_at hl 3 rfl) ?_
    refine lv_iload_n X.hx X.hb dX6_isTrue_191 rfl (lv_at hl 2 rfl) ?_
    obtain ⟨r_37, hc_38, hf⟩ := bd_i hf
    refine r_bvi (gS G uS iS sS) ([] : va_W) (As := [.int p2]) (rest := [.ref (uS 0)]) X sm_X6_74 (c_X4_known l G N uM uC iM sM iC tC sC p2 hc_38) hP hD hS hA (by simp only [List.append_assoc, List.append_nil, List.nil_append]) (wo := (gS G uS iS sS ++ gM G uM (uC 0) iM sM ++ gC G uC iC tC sC)) (by simp only [List.append_assoc, List.append_nil, List.nil_append]) 0 rfl rfl rfl hl.1 (lv_room (Nat.le_of_ble_eq_true rfl)) ⟨Nat.le_of_ble_eq_true rfl, Nat.le_of_ble_eq_true rfl⟩ ⟨Nat.zero_le _, Nat.zero_le _⟩ dX6_isTrue_192 (fun H locs hP hD hS => ?_)
    obtain ⟨r_39, hc_40, hf⟩ := bd_i hf
    refine r_cs0 (As := [.int r_37]) (rest := [.ref (uS 0)]) X sm_X6_90 (c_J6_bitCount_0f7a4 l G N r_37 hc_40) hP hD hS hA rfl hl.1 (lv_room (Nat.le_of_ble_eq_true rfl)) ⟨Nat.le_of_ble_eq_true rfl, Nat.le_of_ble_eq_true rfl⟩ ⟨Nat.zero_le _, Nat.zero_le _⟩ dX6_isTrue_195 (fun H locs hP hD hS => ?_)
    refine lv_iload_n X.hx X.hb dX6_isTrue_198 rfl (lv_at hl 1 rfl) ?_
    obtain ⟨r_41, hc_42, hf⟩ := bd_i hf
    refine r_bvi ([] : va_W) (gM G uM (uC 0) iM sM ++ gC G uC iC tC sC) (As := [.int r_39, .int p1]) (rest := []) X sm_X6_87 (c_X6_compares l G N uS iS sS r_39 p1 hc_42) hP hD hS hA (by simp only [List.append_assoc, List.append_nil, List.nil_append]) (wo := (gS G uS iS sS ++ gM G uM (uC 0) iM sM ++ gC G uC iC tC sC)) (by simp only [List.append_assoc, List.append_nil, List.nil_append]) 0 rfl rfl rfl hl.1 (lv_room (Nat.le_of_ble_eq_true rfl)) ⟨Nat.le_of_ble_eq_true rfl, Nat.le_of_ble_eq_true rfl⟩ ⟨Nat.zero_le _, Nat.zero_le _⟩ dX6_isTrue_199 (fun H locs hP hD hS => ?_)
    obtain ⟨hb_43, hf⟩ := zb_i hf
    cases hf
    subst hQ
    exact r_zret X hP hD hS hb_43 dX6_isTrue_202
  replace hf := if_f hf hc_36
  by_cases hc_44 : ((sS 2) (ix p1)) = 22
  · replace hf := if_t hf hc_44
    refine lv_tableIn (tgt := 203) X.hx X.hb dX6_isTrue_6 (by rw [hc_44]; decide) (by rw [hc_44]; decide) (by rw [hc_44]; rfl) (by decide) ?_
    refine lv_aload_n X.hx X.hb dX6_isTrue_203 rfl (lv_at hl 0 rfl) ?_
    refine lv_aload_n X.hx X.hb dX6_isTrue_204 rfl (lv_at hl 3 rfl) ?_
    refine gf_X6_95 X hP 5 rfl (v := .ref (uM 8)) rfl dX6_isTrue_205 ?_
    refine lv_iload_n X.hx X.hb dX6_isTrue_208 rfl (lv_at hl 2 rfl) ?_
    obtain ⟨hi_45, hf⟩ := ck_i hf
    refine r_iald X hP 7 (f := (sM 7)) rfl hi_45 dX6_isTrue_209 ?_
    refine lv_iload_n X.hx X.hb dX6_isTrue_210 rfl (lv_at hl 1 rfl) ?_
    obtain ⟨r_46, hc_47, hf⟩ := bd_i hf
    refine r_bvi ([] : va_W) (gM G uM (uC 0) iM sM ++ gC G uC iC tC sC) (As := [.int ((sM 7) (ix p2)), .int p1]) (rest := []) X sm_X6_87 (c_X6_compares l G N uS iS sS ((sM 7) (ix p2)) p1 hc_47) hP hD hS hA (by simp only [List.append_assoc, List.append_nil, List.nil_append]) (wo := (gS G uS iS sS ++ gM G uM (uC 0) iM sM ++ gC G uC iC tC sC)) (by simp only [List.append_assoc, List.append_nil, List.nil_append]) 0 rfl rfl rfl hl.1 (lv_room (Nat.le_of_ble_eq_true rfl)) ⟨Nat.le_of_ble_eq_true rfl, Nat.le_of_ble_eq_true rfl⟩ ⟨Nat.zero_le _, Nat.zero_le _⟩ dX6_isTrue_211 (fun H locs hP hD hS => ?_)
    obtain ⟨hb_48, hf⟩ := zb_i hf
    cases hf
    subst hQ
    exact r_zret X hP hD hS hb_48 dX6_isTrue_214
  replace hf := if_f hf hc_44
  refine r_tbd (tgt := 215) X.hx X.hb dX6_isTrue_6 [3, 4, 16, 17, 18, 19, 20, 21, 22] (by decide) (List.forall_mem_cons.mpr ⟨lv_neT hc_2 rfl, List.forall_mem_cons.mpr ⟨lv_neT hc_8 rfl, List.forall_mem_cons.mpr ⟨lv_neT hc_15 rfl, List.forall_mem_cons.mpr ⟨lv_neT hc_19 rfl, List.forall_mem_cons.mpr ⟨lv_neT hc_23 rfl, List.forall_mem_cons.mpr ⟨lv_neT hc_27 rfl, List.forall_mem_cons.mpr ⟨lv_neT hc_31 rfl, List.forall_mem_cons.mpr ⟨lv_neT hc_36 rfl, List.forall_mem_cons.mpr ⟨lv_neT hc_44 rfl, fun _ h => absurd h List.not_mem_nil⟩⟩⟩⟩⟩⟩⟩⟩⟩) (by decide) ?_
  refine lv_aload_n X.hx X.hb dX6_isTrue_215 rfl (lv_at hl 0 rfl) ?_
  refine lv_iload_n X.hx X.hb dX6_isTrue_216 rfl (lv_at hl 2 rfl) ?_
  refine lv_iload_n X.hx X.hb dX6_isTrue_217 rfl (lv_at hl 1 rfl) ?_
  obtain ⟨r_49, hc_50, hf⟩ := bd_i hf
  refine r_bvi ([] : va_W) (gM G uM (uC 0) iM sM ++ gC G uC iC tC sC) (As := [.int p2, .int p1]) (rest := []) X sm_X6_87 (c_X6_compares l G N uS iS sS p2 p1 hc_50) hP hD hS hA (by simp only [List.append_assoc, List.append_nil, List.nil_append]) (wo := (gS G uS iS sS ++ gM G uM (uC 0) iM sM ++ gC G uC iC tC sC)) (by simp only [List.append_assoc, List.append_nil, List.nil_append]) 0 rfl rfl rfl hl.1 (lv_room (Nat.le_of_ble_eq_true rfl)) ⟨Nat.le_of_ble_eq_true rfl, Nat.le_of_ble_eq_true rfl⟩ ⟨Nat.zero_le _, Nat.zero_le _⟩ dX6_isTrue_218 (fun H locs hP hD hS => ?_)
  obtain ⟨hb_51, hf⟩ := zb_i hf
  cases hf
  subst hQ
  exact r_zret X hP hD hS hb_51 dX6_isTrue_221

def f_X6_trueOfStep_6 (N : Nat) (iS : Nat → Int32) (sS : Nat → Nat → Int32) (iM : Nat → Int32) (sM : Nat → Nat → Int32) (iC : Nat → Int32) (tC : Nat → Nat → Int64) (sC : Nat → Nat → Int32) (v1 : Int32) : Nat → (Int32) → (Int32) → Option (Int32)
  | 0, _, _ => none
  | k + 1, v4, v5 => (if (iC 0) ≤ v5 then some v4 else bd (f_X6_isTrue N iS sS iM sM iC tC sC v1 v5) (fun r_14 => jn (fun (z : (Int32)) => match z with | x4_19 => f_X6_trueOfStep_6 N iS sS iM sM iC tC sC v1 k x4_19 (v5 + 1)) (fun K_16 => (if r_14 = 0 then K_16 v4 else nv (v4 ||| ((1 : Int32) <<< (v5 &&& 31))) (fun n_21 => K_16 n_21)))))
def f_X6_trueOfStep (N : Nat) (iS : Nat → Int32) (sS : Nat → Nat → Int32) (iM : Nat → Int32) (sM : Nat → Nat → Int32) (iC : Nat → Int32) (tC : Nat → Nat → Int64) (sC : Nat → Nat → Int32) (p1 : Int32) : Option (Int32) :=
  f_X6_trueOfStep_6 N iS sS iM sM iC tC sC p1 N 0 0
set_option maxHeartbeats 4000000 in
set_option maxRecDepth 100000 in
theorem c_X6_trueOfStep (l : Launch) (G : GT) (N : Nat) (uS uM uC : Nat → Nat) (iS : Nat → Int32) (sS : Nat → Nat → Int32) (iM : Nat → Int32) (sM : Nat → Nat → Int32) (iC : Nat → Int32) (tC : Nat → Nat → Int64) (sC : Nat → Nat → Int32) (p1 : Int32) {r : Int32} (hf : f_X6_trueOfStep N iS sS iM sM iC tC sC p1 = some r) : CI l G yX6_trueOfStep cX6_trueOfStep 6 .int 4 [.ref (uS 0), .int p1, .ref (uC 0), .ref (uM 0)] (gS G uS iS sS ++ gM G uM (uC 0) iM sM ++ gC G uC iC tC sC) r (gS G uS iS sS ++ gM G uM (uC 0) iM sM ++ gC G uC iC tC sC) := by
  refine CI.of (by decide) (Nat.le_of_ble_eq_true rfl) ?_
  intro p e s m args below meth c A X hA hP hD hS ls hl
  have hl : lv_has ls 6 [(0, .ref (uS 0)), (1, .int p1), (2, .ref (uC 0)), (3, .ref (uM 0))] := hl
  generalize hQ : MQ below (QI G A r (gS G uS iS sS ++ gM G uM (uC 0) iM sM ++ gC G uC iC tC sC)) args s 0 0 A = QQ
  unfold f_X6_trueOfStep at hf
  refine lv_iconst (v := 0) X.hx X.hb dX6_trueOfStep_0 (by decide) ?_
  refine lv_istore (lv' := [(4, .int 0), (0, .ref (uS 0)), (1, .int p1), (2, .ref (uC 0)), (3, .ref (uM 0))]) X.hx X.hb dX6_trueOfStep_1 hl (by decide) rfl (fun ls hl => ?_)
  refine lv_iconst (v := 0) X.hx X.hb dX6_trueOfStep_3 (by decide) ?_
  refine lv_istore (lv' := [(5, .int 0), (4, .int 0), (0, .ref (uS 0)), (1, .int p1), (2, .ref (uC 0)), (3, .ref (uM 0))]) X.hx X.hb dX6_trueOfStep_4 hl (by decide) rfl (fun ls hl => ?_)
  have hlo_1 : ∀ (k : Nat) (v4_2 : Int32) (v5_3 : Int32) (H : Heap) (locs : List Loc) (ls : Array Slot), f_X6_trueOfStep_6 N iS sS iM sM iC tC sC p1 k v4_2 v5_3 = some r → va_P G.1 vwCl (gS G uS iS sS ++ gM G uM (uC 0) iM sM ++ gC G uC iC tC sC) H → va_D A (gS G uS iS sS ++ gM G uM (uC 0) iM sM ++ gC G uC iC tC sC) → va_S A s.heap H locs → lv_has ls 6 [(0, .ref (uS 0)), (1, .int p1), (2, .ref (uC 0)), (3, .ref (uM 0)), (4, .int v4_2), (5, .int v5_3)] → W p l e (RM 4) s m args below meth c H locs 0 0 QQ (F0 m 6 ls []) := by
    intro k
    induction k with
    | zero => intro v4_2 v5_3 H locs ls hf; exact absurd hf (by intro q; cases q)
    | succ k ih =>
      intro v4_2 v5_3 H locs ls hf hP hD hS hl
      unfold f_X6_trueOfStep_6 at hf
      refine lv_iload X.hx X.hb dX6_trueOfStep_6 (lv_at hl 5 rfl) ?_
      refine lv_aload_n X.hx X.hb dX6_trueOfStep_8 rfl (lv_at hl 2 rfl) ?_
      refine gf_X6_47 X hP 12 rfl (v := .int (iC 0)) rfl dX6_trueOfStep_9 ?_
      refine lv_icmp_ge (tgt := 41) X.hx X.hb dX6_trueOfStep_12 (by decide) (fun hc_4 => ?_) (fun hc_4 => ?_)
      · replace hf := if_t hf hc_4
        refine lv_iload X.hx X.hb dX6_trueOfStep_41 (lv_at hl 4 rfl) ?_
        cases hf
        subst hQ
        exact r_iret X hP hD hS dX6_trueOfStep_43
      · replace hf := if_f hf hc_4
        refine lv_aload_n X.hx X.hb dX6_trueOfStep_15 rfl (lv_at hl 0 rfl) ?_
        refine lv_iload_n X.hx X.hb dX6_trueOfStep_16 rfl (lv_at hl 1 rfl) ?_
        refine lv_iload X.hx X.hb dX6_trueOfStep_17 (lv_at hl 5 rfl) ?_
        refine lv_aload_n X.hx X.hb dX6_trueOfStep_19 rfl (lv_at hl 3 rfl) ?_
        obtain ⟨r_5, hc_6, hf⟩ := bd_i hf
        refine r_wvi (As := [.int p1, .int v5_3, .ref (uM 0)]) (rest := []) X sm_X6_50 (c_X6_isTrue l G N uS uM uC iS sS iM sM iC tC sC p1 v5_3 hc_6) hP hD hS hA 0 rfl rfl rfl hl.1 (lv_room (Nat.le_of_ble_eq_true rfl)) ⟨Nat.le_of_ble_eq_true rfl, Nat.le_of_ble_eq_true rfl⟩ ⟨Nat.zero_le _, Nat.zero_le _⟩ dX6_trueOfStep_20 (fun H locs hP hD hS => ?_)
        obtain ⟨K_7, eK_9, hf⟩ := jn_i hf
        have hj_8 : ∀ (x4_10 : Int32) (H : Heap) (locs : List Loc) (ls : Array Slot), K_7 x4_10 = some r → va_P G.1 vwCl (gS G uS iS sS ++ gM G uM (uC 0) iM sM ++ gC G uC iC tC sC) H → va_D A (gS G uS iS sS ++ gM G uM (uC 0) iM sM ++ gC G uC iC tC sC) → va_S A s.heap H locs → lv_has ls 6 [(0, .ref (uS 0)), (1, .int p1), (2, .ref (uC 0)), (3, .ref (uM 0)), (4, .int x4_10), (5, .int v5_3)] → W p l e (RM 4) s m args below meth c H locs 0 0 QQ (F0 m 35 ls []) := by
          intro x4_10 H locs ls hf hP hD hS hl
          rw [eK_9] at hf
          try dsimp only at hf
          refine lv_iinc (v := (v5_3 + 1)) (lv' := [(5, .int (v5_3 + 1)), (0, .ref (uS 0)), (1, .int p1), (2, .ref (uC 0)), (3, .ref (uM 0)), (4, .int x4_10)]) X.hx X.hb dX6_trueOfStep_35 hl (k := 5) rfl rfl (by decide) rfl (fun ls hl => ?_)
          refine lv_goto (tgt := 6) X.hx X.hb dX6_trueOfStep_38 (by decide) ?_
          exact ih _ _ _ _ _ hf hP hD hS (lv_sub hl [1, 2, 3, 4, 5, 0] rfl)
        refine lv_if_eq (tgt := 35) X.hx X.hb dX6_trueOfStep_23 (by decide) (fun hc_11 => ?_) (fun hc_11 => ?_)
        · replace hf := if_t hf hc_11
          exact hj_8 _ _ _ _ hf hP hD hS (lv_sub hl [0, 1, 2, 3, 4, 5] rfl)
        · replace hf := if_f hf hc_11
          refine lv_iload X.hx X.hb dX6_trueOfStep_26 (lv_at hl 4 rfl) ?_
          refine lv_iconst (v := 1) X.hx X.hb dX6_trueOfStep_28 (by decide) ?_
          refine lv_iload X.hx X.hb dX6_trueOfStep_29 (lv_at hl 5 rfl) ?_
          refine lv_ishl X.hx X.hb dX6_trueOfStep_31 ?_
          refine lv_ior X.hx X.hb dX6_trueOfStep_32 ?_
          obtain ⟨n_12, en_12, hf⟩ := nv_i hf
          refine r_nm en_12 ?_
          refine lv_istore (lv' := [(4, .int n_12), (0, .ref (uS 0)), (1, .int p1), (2, .ref (uC 0)), (3, .ref (uM 0)), (5, .int v5_3)]) X.hx X.hb dX6_trueOfStep_33 hl (by decide) rfl (fun ls hl => ?_)
          exact hj_8 _ _ _ _ hf hP hD hS (lv_sub hl [1, 2, 3, 4, 0, 5] rfl)
  exact hlo_1 N _ _ _ _ _ hf hP hD hS (lv_sub hl [2, 3, 4, 5, 1, 0] rfl)

def f_X6_trueOf_5 (N : Nat) (iS : Nat → Int32) (iM : Nat → Int32) (sM : Nat → Nat → Int32) (iC : Nat → Int32) (tC : Nat → Nat → Int64) (sC : Nat → Nat → Int32) (K_1 : ((Int32) × (Nat → Nat → Int32)) → Option (Int32 × (Nat → Nat → Int32))) : Nat → (Nat → Nat → Int32) → (Int32) → (Int32) → Option (Int32 × (Nat → Nat → Int32))
  | 0, _, _, _ => none
  | k + 1, sS, v3, v4 => (if (iS 1) ≤ v4 then K_1 (v3, sS) else (if (40 : Int32) ≤ v4 then K_1 (v3, sS) else ck v4 40 (jn (fun (z : (Int32) × (Nat → Nat → Int32)) => match z with | (x3_60, sS_61) => f_X6_trueOf_5 N iS iM sM iC tC sC K_1 k sS_61 x3_60 (v4 + 1)) (fun K_57 => jn (fun (z : Unit) => match z with | () => ck v4 40 (jn (fun (z : Unit) => match z with | () => ck v4 40 (jn (fun (z : Unit) => match z with | () => (if (20 : Int32) ≤ v3 then K_57 (v3, sS) else bd (f_X6_trueOfStep N iS sS iM sM iC tC sC v4) (fun r_74 => ck v3 20 (nv (upd (sS 5) (ix v3) r_74) (fun g_77 => K_57 ((v3 + 1), (va_up sS 5 g_77))))))) (fun K_70 => (if ((sS 2) (ix v4)) = 13 then (if v3 ≤ 1 then K_70 () else ck ((v3 + (-1)) - 1) 20 (ck (v3 + (-1)) 20 (ck ((v3 + (-1)) - 1) 20 (nv (upd (sS 5) (ix ((v3 + (-1)) - 1)) (((sS 5) (ix ((v3 + (-1)) - 1))) ||| ((sS 5) (ix (v3 + (-1)))))) (fun g_83 => K_57 ((v3 + (-1)), (va_up sS 5 g_83))))))) else K_70 ())))) (fun K_66 => (if ((sS 2) (ix v4)) = 14 then (if v3 ≤ 1 then K_66 () else ck ((v3 + (-1)) - 1) 20 (ck (v3 + (-1)) 20 (ck ((v3 + (-1)) - 1) 20 (nv (upd (sS 5) (ix ((v3 + (-1)) - 1)) (((sS 5) (ix ((v3 + (-1)) - 1))) &&& ((sS 5) (ix (v3 + (-1)))))) (fun g_89 => K_57 ((v3 + (-1)), (va_up sS 5 g_89))))))) else K_66 ())))) (fun K_62 => (if ((sS 2) (ix v4)) = 15 then (if v3 ≤ 0 then K_62 () else ck (v3 - 1) 20 (bd (f_X1_everyone N iC tC sC) (fun r_93 => ck (v3 - 1) 20 (nv (upd (sS 5) (ix (v3 - 1)) ((((sS 5) (ix (v3 - 1))) ^^^ (-1)) &&& r_93)) (fun g_96 => K_57 (v3, (va_up sS 5 g_96))))))) else K_62 ()))))))
def f_X6_trueOf (N : Nat) (iS : Nat → Int32) (sS : Nat → Nat → Int32) (iM : Nat → Int32) (sM : Nat → Nat → Int32) (iC : Nat → Int32) (tC : Nat → Nat → Int64) (sC : Nat → Nat → Int32) : Option (Int32 × (Nat → Nat → Int32)) :=
  jn (fun (z : (Int32) × (Nat → Nat → Int32)) => match z with | (x3_4, sS_5) => (if x3_4 ≤ 0 then some (0, sS_5) else some (((sS_5 5) 0), sS_5))) (fun K_1 => f_X6_trueOf_5 N iS iM sM iC tC sC K_1 N sS 0 0)
set_option maxHeartbeats 4000000 in
set_option maxRecDepth 100000 in
theorem c_X6_trueOf (l : Launch) (G : GT) (N : Nat) (uS uM uC : Nat → Nat) (iS : Nat → Int32) (sS : Nat → Nat → Int32) (iM : Nat → Int32) (sM : Nat → Nat → Int32) (iC : Nat → Int32) (tC : Nat → Nat → Int64) (sC : Nat → Nat → Int32) {r : Int32} {sS' : Nat → Nat → Int32} (hf : f_X6_trueOf N iS sS iM sM iC tC sC = some (r, sS')) : CI l G yX6_trueOf cX6_trueOf 5 .int 5 [.ref (uS 0), .ref (uC 0), .ref (uM 0)] (gS G uS iS sS ++ gM G uM (uC 0) iM sM ++ gC G uC iC tC sC) r (gS G uS iS sS' ++ gM G uM (uC 0) iM sM ++ gC G uC iC tC sC) := by
  refine CI.of (by decide) (Nat.le_of_ble_eq_true rfl) ?_
  intro p e s m args below meth c A X hA hP hD hS ls hl
  have hl : lv_has ls 5 [(0, .ref (uS 0)), (1, .ref (uC 0)), (2, .ref (uM 0))] := hl
  generalize hQ : MQ below (QI G A r (gS G uS iS sS' ++ gM G uM (uC 0) iM sM ++ gC G uC iC tC sC)) args s 0 0 A = QQ
  unfold f_X6_trueOf at hf
  refine lv_iconst (v := 0) X.hx X.hb dX6_trueOf_0 (by decide) ?_
  refine lv_istore_n (lv' := [(3, .int 0), (0, .ref (uS 0)), (1, .ref (uC 0)), (2, .ref (uM 0))]) X.hx X.hb dX6_trueOf_1 rfl hl (by decide) rfl (fun ls hl => ?_)
  refine lv_iconst (v := 0) X.hx X.hb dX6_trueOf_2 (by decide) ?_
  refine lv_istore (lv' := [(4, .int 0), (3, .int 0), (0, .ref (uS 0)), (1, .ref (uC 0)), (2, .ref (uM 0))]) X.hx X.hb dX6_trueOf_3 hl (by decide) rfl (fun ls hl => ?_)
  obtain ⟨K_1, eK_3, hf⟩ := jn_i hf
  have hj_2 : ∀ (x3_4 : Int32) (sS_5 : Nat → Nat → Int32) (H : Heap) (locs : List Loc) (ls : Array Slot), K_1 (x3_4, sS_5) = some (r, sS') → va_P G.1 vwCl (gS G uS iS sS_5 ++ gM G uM (uC 0) iM sM ++ gC G uC iC tC sC) H → va_D A (gS G uS iS sS_5 ++ gM G uM (uC 0) iM sM ++ gC G uC iC tC sC) → va_S A s.heap H locs → lv_has ls 5 [(0, .ref (uS 0)), (3, .int x3_4)] → W p l e (RM 5) s m args below meth c H locs 0 0 QQ (F0 m 172 ls []) := by
    intro x3_4 sS_5 H locs ls hf hP hD hS hl
    rw [eK_3] at hf
    try dsimp only at hf
    refine lv_iload_n X.hx X.hb dX6_trueOf_172 rfl (lv_at hl 1 rfl) ?_
    refine lv_if_le (tgt := 185) X.hx X.hb dX6_trueOf_173 (by decide) (fun hc_6 => ?_) (fun hc_6 => ?_)
    · replace hf := if_t hf hc_6
      refine lv_iconst (v := 0) X.hx X.hb dX6_trueOf_185 (by decide) ?_
      cases hf
      subst hQ
      exact r_iret X hP hD hS dX6_trueOf_186
    · replace hf := if_f hf hc_6
      refine lv_aload_n X.hx X.hb dX6_trueOf_176 rfl (lv_at hl 0 rfl) ?_
      refine gf_X6_21 X hP 0 rfl (v := .ref (uS 6)) rfl dX6_trueOf_177 ?_
      refine lv_iconst (v := 0) X.hx X.hb dX6_trueOf_180 (by decide) ?_
      refine r_iald X hP 4 (f := (sS_5 5)) rfl (vp_c rfl) dX6_trueOf_181 ?_
      refine W.eq (g2 := F0 m 182 ls [.int ((sS_5 5) 0)]) rfl ?_
      refine lv_goto (tgt := 186) X.hx X.hb dX6_trueOf_182 (by decide) ?_
      cases hf
      subst hQ
      exact r_iret X hP hD hS dX6_trueOf_186
  have hlo_7 : ∀ (k : Nat) (sS_8 : Nat → Nat → Int32) (v3_9 : Int32) (v4_10 : Int32) (H : Heap) (locs : List Loc) (ls : Array Slot), f_X6_trueOf_5 N iS iM sM iC tC sC K_1 k sS_8 v3_9 v4_10 = some (r, sS') → va_P G.1 vwCl (gS G uS iS sS_8 ++ gM G uM (uC 0) iM sM ++ gC G uC iC tC sC) H → va_D A (gS G uS iS sS_8 ++ gM G uM (uC 0) iM sM ++ gC G uC iC tC sC) → va_S A s.heap H locs → lv_has ls 5 [(0, .ref (uS 0)), (1, .ref (uC 0)), (2, .ref (uM 0)), (3, .int v3_9), (4, .int v4_10)] → W p l e (RM 5) s m args below meth c H locs 0 0 QQ (F0 m 5 ls []) := by
    intro k
    induction k with
    | zero => intro sS_8 v3_9 v4_10 H locs ls hf; exact absurd hf (by intro q; cases q)
    | succ k ih =>
      intro sS_8 v3_9 v4_10 H locs ls hf hP hD hS hl
      unfold f_X6_trueOf_5 at hf
      refine lv_iload X.hx X.hb dX6_trueOf_5 (lv_at hl 4 rfl) ?_
      refine lv_aload_n X.hx X.hb dX6_trueOf_7 rfl (lv_at hl 0 rfl) ?_
      refine gf_X6_28 X hP 0 rfl (v := .int (iS 1)) rfl dX6_trueOf_8 ?_
      refine lv_icmp_ge (tgt := 172) X.hx X.hb dX6_trueOf_11 (by decide) (fun hc_11 => ?_) (fun hc_11 => ?_)
      · replace hf := if_t hf hc_11
        exact hj_2 _ _ _ _ _ hf hP hD hS (lv_sub hl [0, 3] rfl)
      · replace hf := if_f hf hc_11
        refine lv_iload X.hx X.hb dX6_trueOf_14 (lv_at hl 4 rfl) ?_
        refine lv_bipush (v := 40) X.hx X.hb dX6_trueOf_16 (by decide) ?_
        refine lv_icmp_ge (tgt := 172) X.hx X.hb dX6_trueOf_18 (by decide) (fun hc_12 => ?_) (fun hc_12 => ?_)
        · replace hf := if_t hf hc_12
          exact hj_2 _ _ _ _ _ hf hP hD hS (lv_sub hl [0, 3] rfl)
        · replace hf := if_f hf hc_12
          refine lv_aload_n X.hx X.hb dX6_trueOf_21 rfl (lv_at hl 0 rfl) ?_
          refine gf_X6_11 X hP 0 rfl (v := .ref (uS 3)) rfl dX6_trueOf_22 ?_
          refine lv_iload X.hx X.hb dX6_trueOf_25 (lv_at hl 4 rfl) ?_
          obtain ⟨hi_13, hf⟩ := ck_i hf
          refine r_iald X hP 1 (f := (sS_8 2)) rfl hi_13 dX6_trueOf_27 ?_
          refine lv_bipush (v := 15) X.hx X.hb dX6_trueOf_28 (by decide) ?_
          obtain ⟨K_14, eK_16, hf⟩ := jn_i hf
          have hj_15 : ∀ (x3_17 : Int32) (sS_18 : Nat → Nat → Int32) (H : Heap) (locs : List Loc) (ls : Array Slot), K_14 (x3_17, sS_18) = some (r, sS') → va_P G.1 vwCl (gS G uS iS sS_18 ++ gM G uM (uC 0) iM sM ++ gC G uC iC tC sC) H → va_D A (gS G uS iS sS_18 ++ gM G uM (uC 0) iM sM ++ gC G uC iC tC sC) → va_S A s.heap H locs → lv_has ls 5 [(0, .ref (uS 0)), (1, .ref (uC 0)), (2, .ref (uM 0)), (3, .int x3_17), (4, .int v4_10)] → W p l e (RM 5) s m args below meth c H locs 0 0 QQ (F0 m 166 ls []) := by
            intro x3_17 sS_18 H locs ls hf hP hD hS hl
            rw [eK_16] at hf
            try dsimp only at hf
            refine lv_iinc (v := (v4_10 + 1)) (lv' := [(4, .int (v4_10 + 1)), (0, .ref (uS 0)), (1, .ref (uC 0)), (2, .ref (uM 0)), (3, .int x3_17)]) X.hx X.hb dX6_trueOf_166 hl (k := 4) rfl rfl (by decide) rfl (fun ls hl => ?_)
            refine lv_goto (tgt := 5) X.hx X.hb dX6_trueOf_169 (by decide) ?_
            exact ih _ _ _ _ _ _ hf hP hD hS (lv_sub hl [1, 2, 3, 4, 0] rfl)
          obtain ⟨K_19, eK_21, hf⟩ := jn_i hf
          have hj_20 : ∀ (H : Heap) (locs : List Loc) (ls : Array Slot), K_19 () = some (r, sS') → va_P G.1 vwCl (gS G uS iS sS_8 ++ gM G uM (uC 0) iM sM ++ gC G uC iC tC sC) H → va_D A (gS G uS iS sS_8 ++ gM G uM (uC 0) iM sM ++ gC G uC iC tC sC) → va_S A s.heap H locs → lv_has ls 5 [(0, .ref (uS 0)), (1, .ref (uC 0)), (2, .ref (uM 0)), (3, .int v3_9), (4, .int v4_10)] → W p l e (RM 5) s m args below meth c H locs 0 0 QQ (F0 m 63 ls []) := by
            intro  H locs ls hf hP hD hS hl
            rw [eK_21] at hf
            try dsimp only at hf
            refine lv_aload_n X.hx X.hb dX6_trueOf_63 rfl (lv_at hl 0 rfl) ?_
            refine gf_X6_11 X hP 0 rfl (v := .ref (uS 3)) rfl dX6_trueOf_64 ?_
            refine lv_iload X.hx X.hb dX6_trueOf_67 (lv_at hl 4 rfl) ?_
            obtain ⟨hi_22, hf⟩ := ck_i hf
            refine r_iald X hP 1 (f := (sS_8 2)) rfl hi_22 dX6_trueOf_69 ?_
            refine lv_bipush (v := 14) X.hx X.hb dX6_trueOf_70 (by decide) ?_
            obtain ⟨K_23, eK_25, hf⟩ := jn_i hf
            have hj_24 : ∀ (H : Heap) (locs : List Loc) (ls : Array Slot), K_23 () = some (r, sS') → va_P G.1 vwCl (gS G uS iS sS_8 ++ gM G uM (uC 0) iM sM ++ gC G uC iC tC sC) H → va_D A (gS G uS iS sS_8 ++ gM G uM (uC 0) iM sM ++ gC G uC iC tC sC) → va_S A s.heap H locs → lv_has ls 5 [(0, .ref (uS 0)), (1, .ref (uC 0)), (2, .ref (uM 0)), (3, .int v3_9), (4, .int v4_10)] → W p l e (RM 5) s m args below meth c H locs 0 0 QQ (F0 m 103 ls []) := by
              intro  H locs ls hf hP hD hS hl
              rw [eK_25] at hf
              try dsimp only at hf
              refine lv_aload_n X.hx X.hb dX6_trueOf_103 rfl (lv_at hl 0 rfl) ?_
              refine gf_X6_11 X hP 0 rfl (v := .ref (uS 3)) rfl dX6_trueOf_104 ?_
              refine lv_iload X.hx X.hb dX6_trueOf_107 (lv_at hl 4 rfl) ?_
              obtain ⟨hi_26, hf⟩ := ck_i hf
              refine r_iald X hP 1 (f := (sS_8 2)) rfl hi_26 dX6_trueOf_109 ?_
              refine lv_bipush (v := 13) X.hx X.hb dX6_trueOf_110 (by decide) ?_
              obtain ⟨K_27, eK_29, hf⟩ := jn_i hf
              have hj_28 : ∀ (H : Heap) (locs : List Loc) (ls : Array Slot), K_27 () = some (r, sS') → va_P G.1 vwCl (gS G uS iS sS_8 ++ gM G uM (uC 0) iM sM ++ gC G uC iC tC sC) H → va_D A (gS G uS iS sS_8 ++ gM G uM (uC 0) iM sM ++ gC G uC iC tC sC) → va_S A s.heap H locs → lv_has ls 5 [(0, .ref (uS 0)), (1, .ref (uC 0)), (2, .ref (uM 0)), (3, .int v3_9), (4, .int v4_10)] → W p l e (RM 5) s m args below meth c H locs 0 0 QQ (F0 m 143 ls []) := by
                intro  H locs ls hf hP hD hS hl
                rw [eK_29] at hf
                try dsimp only at hf
                refine lv_iload_n X.hx X.hb dX6_trueOf_143 rfl (lv_at hl 3 rfl) ?_
                refine lv_bipush (v := 20) X.hx X.hb dX6_trueOf_144 (by decide) ?_
                refine lv_icmp_ge (tgt := 166) X.hx X.hb dX6_trueOf_146 (by decide) (fun hc_30 => ?_) (fun hc_30 => ?_)
                · replace hf := if_t hf hc_30
                  exact hj_15 _ _ _ _ _ hf hP hD hS (lv_sub hl [0, 1, 2, 3, 4] rfl)
                · replace hf := if_f hf hc_30
                  refine lv_aload_n X.hx X.hb dX6_trueOf_149 rfl (lv_at hl 0 rfl) ?_
                  refine gf_X6_21 X hP 0 rfl (v := .ref (uS 6)) rfl dX6_trueOf_150 ?_
                  refine lv_iload_n X.hx X.hb dX6_trueOf_153 rfl (lv_at hl 3 rfl) ?_
                  refine lv_aload_n X.hx X.hb dX6_trueOf_154 rfl (lv_at hl 0 rfl) ?_
                  refine lv_iload X.hx X.hb dX6_trueOf_155 (lv_at hl 4 rfl) ?_
                  refine lv_aload_n X.hx X.hb dX6_trueOf_157 rfl (lv_at hl 1 rfl) ?_
                  refine lv_aload_n X.hx X.hb dX6_trueOf_158 rfl (lv_at hl 2 rfl) ?_
                  obtain ⟨r_31, hc_32, hf⟩ := bd_i hf
                  refine r_wvi (As := [.int v4_10, .ref (uC 0), .ref (uM 0)]) (rest := [.int v3_9, .ref (uS 6)]) X sm_X6_43 (c_X6_trueOfStep l G N uS uM uC iS sS_8 iM sM iC tC sC v4_10 hc_32) hP hD hS hA 0 rfl rfl rfl hl.1 (lv_room (Nat.le_of_ble_eq_true rfl)) ⟨Nat.le_of_ble_eq_true rfl, Nat.le_of_ble_eq_true rfl⟩ ⟨Nat.zero_le _, Nat.zero_le _⟩ dX6_trueOf_159 (fun H locs hP hD hS => ?_)
                  obtain ⟨hi_33, hf⟩ := ck_i hf
                  obtain ⟨g_34, eg_34, hf⟩ := nv_i hf
                  refine r_iast X hP hD hS 4 (f := (sS_8 5)) rfl hi_33 (wo := (gS G uS iS (va_up sS_8 5 g_34) ++ gM G uM (uC 0) iM sM ++ gC G uC iC tC sC)) (by subst eg_34; rfl) dX6_trueOf_162 (fun H locs hP hD hS => ?_)
                  refine lv_iinc (v := (v3_9 + 1)) (lv' := [(3, .int (v3_9 + 1)), (0, .ref (uS 0)), (1, .ref (uC 0)), (2, .ref (uM 0)), (4, .int v4_10)]) X.hx X.hb dX6_trueOf_163 hl (k := 3) rfl rfl (by decide) rfl (fun ls hl => ?_)
                  exact hj_15 _ _ _ _ _ hf hP hD hS (lv_sub hl [1, 2, 3, 0, 4] rfl)
              refine lv_icmp_ne (tgt := 143) X.hx X.hb dX6_trueOf_112 (by decide) (fun hc_35 => ?_) (fun hc_35 => ?_)
              · replace hf := if_f hf hc_35
                exact hj_28 _ _ _ hf hP hD hS (lv_sub hl [0, 1, 2, 3, 4] rfl)
              · replace hf := if_t hf hc_35
                refine lv_iload_n X.hx X.hb dX6_trueOf_115 rfl (lv_at hl 3 rfl) ?_
                refine lv_iconst (v := 1) X.hx X.hb dX6_trueOf_116 (by decide) ?_
                refine lv_icmp_le (tgt := 143) X.hx X.hb dX6_trueOf_117 (by decide) (fun hc_36 => ?_) (fun hc_36 => ?_)
                · replace hf := if_t hf hc_36
                  exact hj_28 _ _ _ hf hP hD hS (lv_sub hl [0, 1, 2, 3, 4] rfl)
                · replace hf := if_f hf hc_36
                  refine lv_iinc (v := (v3_9 + (-1))) (lv' := [(3, .int (v3_9 + (-1))), (0, .ref (uS 0)), (1, .ref (uC 0)), (2, .ref (uM 0)), (4, .int v4_10)]) X.hx X.hb dX6_trueOf_120 hl (k := 3) rfl rfl (by decide) rfl (fun ls hl => ?_)
                  refine lv_aload_n X.hx X.hb dX6_trueOf_123 rfl (lv_at hl 1 rfl) ?_
                  refine gf_X6_21 X hP 0 rfl (v := .ref (uS 6)) rfl dX6_trueOf_124 ?_
                  refine lv_iload_n X.hx X.hb dX6_trueOf_127 rfl (lv_at hl 0 rfl) ?_
                  refine lv_iconst (v := 1) X.hx X.hb dX6_trueOf_128 (by decide) ?_
                  refine lv_isub X.hx X.hb dX6_trueOf_129 ?_
                  refine lv_dup2_11 X.hx X.hb dX6_trueOf_130 rfl rfl ?_
                  obtain ⟨hi_37, hf⟩ := ck_i hf
                  refine r_iald X hP 4 (f := (sS_8 5)) rfl hi_37 dX6_trueOf_131 ?_
                  refine lv_aload_n X.hx X.hb dX6_trueOf_132 rfl (lv_at hl 1 rfl) ?_
                  refine gf_X6_21 X hP 0 rfl (v := .ref (uS 6)) rfl dX6_trueOf_133 ?_
                  refine lv_iload_n X.hx X.hb dX6_trueOf_136 rfl (lv_at hl 0 rfl) ?_
                  obtain ⟨hi_38, hf⟩ := ck_i hf
                  refine r_iald X hP 4 (f := (sS_8 5)) rfl hi_38 dX6_trueOf_137 ?_
                  refine lv_ior X.hx X.hb dX6_trueOf_138 ?_
                  obtain ⟨hi_39, hf⟩ := ck_i hf
                  obtain ⟨g_40, eg_40, hf⟩ := nv_i hf
                  refine r_iast X hP hD hS 4 (f := (sS_8 5)) rfl hi_39 (wo := (gS G uS iS (va_up sS_8 5 g_40) ++ gM G uM (uC 0) iM sM ++ gC G uC iC tC sC)) (by subst eg_40; rfl) dX6_trueOf_139 (fun H locs hP hD hS => ?_)
                  refine lv_goto (tgt := 166) X.hx X.hb dX6_trueOf_140 (by decide) ?_
                  exact hj_15 _ _ _ _ _ hf hP hD hS (lv_sub hl [1, 2, 3, 0, 4] rfl)
            refine lv_icmp_ne (tgt := 103) X.hx X.hb dX6_trueOf_72 (by decide) (fun hc_41 => ?_) (fun hc_41 => ?_)
            · replace hf := if_f hf hc_41
              exact hj_24 _ _ _ hf hP hD hS (lv_sub hl [0, 1, 2, 3, 4] rfl)
            · replace hf := if_t hf hc_41
              refine lv_iload_n X.hx X.hb dX6_trueOf_75 rfl (lv_at hl 3 rfl) ?_
              refine lv_iconst (v := 1) X.hx X.hb dX6_trueOf_76 (by decide) ?_
              refine lv_icmp_le (tgt := 103) X.hx X.hb dX6_trueOf_77 (by decide) (fun hc_42 => ?_) (fun hc_42 => ?_)
              · replace hf := if_t hf hc_42
                exact hj_24 _ _ _ hf hP hD hS (lv_sub hl [0, 1, 2, 3, 4] rfl)
              · replace hf := if_f hf hc_42
                refine lv_iinc (v := (v3_9 + (-1))) (lv' := [(3, .int (v3_9 + (-1))), (0, .ref (uS 0)), (1, .ref (uC 0)), (2, .ref (uM 0)), (4, .int v4_10)]) X.hx X.hb dX6_trueOf_80 hl (k := 3) rfl rfl (by decide) rfl (fun ls hl => ?_)
                refine lv_aload_n X.hx X.hb dX6_trueOf_83 rfl (lv_at hl 1 rfl) ?_
                refine gf_X6_21 X hP 0 rfl (v := .ref (uS 6)) rfl dX6_trueOf_84 ?_
                refine lv_iload_n X.hx X.hb dX6_trueOf_87 rfl (lv_at hl 0 rfl) ?_
                refine lv_iconst (v := 1) X.hx X.hb dX6_trueOf_88 (by decide) ?_
                refine lv_isub X.hx X.hb dX6_trueOf_89 ?_
                refine lv_dup2_11 X.hx X.hb dX6_trueOf_90 rfl rfl ?_
                obtain ⟨hi_43, hf⟩ := ck_i hf
                refine r_iald X hP 4 (f := (sS_8 5)) rfl hi_43 dX6_trueOf_91 ?_
                refine lv_aload_n X.hx X.hb dX6_trueOf_92 rfl (lv_at hl 1 rfl) ?_
                refine gf_X6_21 X hP 0 rfl (v := .ref (uS 6)) rfl dX6_trueOf_93 ?_
                refine lv_iload_n X.hx X.hb dX6_trueOf_96 rfl (lv_at hl 0 rfl) ?_
                obtain ⟨hi_44, hf⟩ := ck_i hf
                refine r_iald X hP 4 (f := (sS_8 5)) rfl hi_44 dX6_trueOf_97 ?_
                refine lv_iand X.hx X.hb dX6_trueOf_98 ?_
                obtain ⟨hi_45, hf⟩ := ck_i hf
                obtain ⟨g_46, eg_46, hf⟩ := nv_i hf
                refine r_iast X hP hD hS 4 (f := (sS_8 5)) rfl hi_45 (wo := (gS G uS iS (va_up sS_8 5 g_46) ++ gM G uM (uC 0) iM sM ++ gC G uC iC tC sC)) (by subst eg_46; rfl) dX6_trueOf_99 (fun H locs hP hD hS => ?_)
                refine lv_goto (tgt := 166) X.hx X.hb dX6_trueOf_100 (by decide) ?_
                exact hj_15 _ _ _ _ _ hf hP hD hS (lv_sub hl [1, 2, 3, 0, 4] rfl)
          refine lv_icmp_ne (tgt := 63) X.hx X.hb dX6_trueOf_30 (by decide) (fun hc_47 => ?_) (fun hc_47 => ?_)
          · replace hf := if_f hf hc_47
            exact hj_20 _ _ _ hf hP hD hS (lv_sub hl [0, 1, 2, 3, 4] rfl)
          · replace hf := if_t hf hc_47
            refine lv_iload_n X.hx X.hb dX6_trueOf_33 rfl (lv_at hl 3 rfl) ?_
            refine lv_if_le (tgt := 63) X.hx X.hb dX6_trueOf_34 (by decide) (fun hc_48 => ?_) (fun hc_48 => ?_)
            · replace hf := if_t hf hc_48
              exact hj_20 _ _ _ hf hP hD hS (lv_sub hl [0, 1, 2, 3, 4] rfl)
            · replace hf := if_f hf hc_48
              refine lv_aload_n X.hx X.hb dX6_trueOf_37 rfl (lv_at hl 0 rfl) ?_
              refine gf_X6_21 X hP 0 rfl (v := .ref (uS 6)) rfl dX6_trueOf_38 ?_
              refine lv_iload_n X.hx X.hb dX6_trueOf_41 rfl (lv_at hl 3 rfl) ?_
              refine lv_iconst (v := 1) X.hx X.hb dX6_trueOf_42 (by decide) ?_
              refine lv_isub X.hx X.hb dX6_trueOf_43 ?_
              refine lv_aload_n X.hx X.hb dX6_trueOf_44 rfl (lv_at hl 0 rfl) ?_
              refine gf_X6_21 X hP 0 rfl (v := .ref (uS 6)) rfl dX6_trueOf_45 ?_
              refine lv_iload_n X.hx X.hb dX6_trueOf_48 rfl (lv_at hl 3 rfl) ?_
              refine lv_iconst (v := 1) X.hx X.hb dX6_trueOf_49 (by decide) ?_
              refine lv_isub X.hx X.hb dX6_trueOf_50 ?_
              obtain ⟨hi_49, hf⟩ := ck_i hf
              refine r_iald X hP 4 (f := (sS_8 5)) rfl hi_49 dX6_trueOf_51 ?_
              refine lv_iconst (v := (-1)) X.hx X.hb dX6_trueOf_52 (by decide) ?_
              refine lv_ixor X.hx X.hb dX6_trueOf_53 ?_
              refine lv_aload_n X.hx X.hb dX6_trueOf_54 rfl (lv_at hl 1 rfl) ?_
              obtain ⟨r_50, hc_51, hf⟩ := bd_i hf
              refine r_bvi (gS G uS iS sS_8 ++ gM G uM (uC 0) iM sM) ([] : va_W) (As := []) (rest := [.int (((sS_8 5) (ix (v3_9 - 1))) ^^^ (-1)), .int (v3_9 - 1), .ref (uS 6)]) X sm_X6_37 (c_X1_everyone l G N uC iC tC sC hc_51) hP hD hS hA (by simp only [List.append_assoc, List.append_nil, List.nil_append]) (wo := (gS G uS iS sS_8 ++ gM G uM (uC 0) iM sM ++ gC G uC iC tC sC)) (by simp only [List.append_assoc, List.append_nil, List.nil_append]) 0 rfl rfl rfl hl.1 (lv_room (Nat.le_of_ble_eq_true rfl)) ⟨Nat.le_of_ble_eq_true rfl, Nat.le_of_ble_eq_true rfl⟩ ⟨Nat.zero_le _, Nat.zero_le _⟩ dX6_trueOf_55 (fun H locs hP hD hS => ?_)
              refine lv_iand X.hx X.hb dX6_trueOf_58 ?_
              obtain ⟨hi_52, hf⟩ := ck_i hf
              obtain ⟨g_53, eg_53, hf⟩ := nv_i hf
              refine r_iast X hP hD hS 4 (f := (sS_8 5)) rfl hi_52 (wo := (gS G uS iS (va_up sS_8 5 g_53) ++ gM G uM (uC 0) iM sM ++ gC G uC iC tC sC)) (by subst eg_53; rfl) dX6_trueOf_59 (fun H locs hP hD hS => ?_)
              refine lv_goto (tgt := 166) X.hx X.hb dX6_trueOf_60 (by decide) ?_
              exact hj_15 _ _ _ _ _ hf hP hD hS (lv_sub hl [0, 1, 2, 3, 4] rfl)
  exact hlo_7 N _ _ _ _ _ _ hf hP hD hS (lv_sub hl [2, 3, 4, 1, 0] rfl)

def f_X7_readPlain (N : Nat) (sT : Nat → Nat → Int32) (iT : Nat → Int32) (jT : Nat → Int64) (iC : Nat → Int32) (tC : Nat → Nat → Int64) (sC : Nat → Nat → Int32) (iS : Nat → Int32) (sS : Nat → Nat → Int32) (p1 : Int32) : Option (Int32 × (Nat → Int32) × (Nat → Int64) × (Nat → Int32) × (Nat → Nat → Int32)) :=
  jn (fun (z : Unit) => match z with | () => jn (fun (z : Unit) => match z with | () => jn (fun (z : (Int32) × (Nat → Int32) × (Nat → Int64)) => match z with | (y_10, iT_11, jT_12) => (if y_10 = (-1) then some (0, iT_11, jT_12, iS, sS) else bd (f_X6_addStep N iS sS p1 (-1) y_10) (fun (iS_14, sS_15) => some (1, iT_11, jT_12, iS_14, sS_15)))) (fun K_7 => (if p1 = 4 then bd (f_X8_passPerson N sT iT jT iC tC sC) (fun (r_22, iT_23, jT_24) => K_7 (r_22, iT_23, jT_24)) else bd (f_X8_passGood N sT iT jT iC tC sC) (fun (r_18, iT_19, jT_20) => K_7 (r_18, iT_19, jT_20))))) (fun K_4 => (if p1 = 4 then K_4 () else (if p1 = 3 then K_4 () else jn (fun (z : Unit) => match z with | () => bd (f_X8_next N sT iT jT) (fun (iT_31, jT_32) => bd (f_X8_passNumber N sT iT_31 jT_32 0 999) (fun (r_34, iT_35, jT_36) => (if r_34 = (-1) then some (0, iT_35, jT_36, iS, sS) else bd (f_X6_addStep N iS sS p1 (iT 8) r_34) (fun (iS_39, sS_40) => some (1, iT_35, jT_36, iS_39, sS_40)))))) (fun K_28 => (if (iT 8) = 60 then K_28 () else (if (iT 8) = 61 then K_28 () else (if (iT 8) = 62 then K_28 () else bd (f_X8_refuse N sT iT jT 1) (fun (r_45, iT_46) => zb r_45 (some (r_45, iT_46, jT, iS, sS))))))))))) (fun K_1 => (if p1 < 16 then K_1 () else (if (19 : Int32) < p1 then K_1 () else bd (f_X6_addStep N iS sS p1 (-1) (-1)) (fun (iS_51, sS_52) => some (1, iT, jT, iS_51, sS_52)))))
set_option maxHeartbeats 4000000 in
set_option maxRecDepth 100000 in
theorem c_X7_readPlain (l : Launch) (G : GT) (N : Nat) (uQ uT uC uS : Nat → Nat) (sT : Nat → Nat → Int32) (iT : Nat → Int32) (jT : Nat → Int64) (iC : Nat → Int32) (tC : Nat → Nat → Int64) (sC : Nat → Nat → Int32) (iS : Nat → Int32) (sS : Nat → Nat → Int32) (p1 : Int32) {r : Int32} {iT' : Nat → Int32} {jT' : Nat → Int64} {iS' : Nat → Int32} {sS' : Nat → Nat → Int32} (hf : f_X7_readPlain N sT iT jT iC tC sC iS sS p1 = some (r, iT', jT', iS', sS')) : CI l G yX7_readPlain cX7_readPlain 4 .boolean 4 [.ref (uQ 0), .int p1] (gQ G uQ (uT 0) (uC 0) (uS 0) ++ gT G uT sT iT jT ++ gC G uC iC tC sC ++ gS G uS iS sS) r (gQ G uQ (uT 0) (uC 0) (uS 0) ++ gT G uT sT iT' jT' ++ gC G uC iC tC sC ++ gS G uS iS' sS') := by
  refine CI.of (by decide) (Nat.le_of_ble_eq_true rfl) ?_
  intro p e s m args below meth c A X hA hP hD hS ls hl
  have hl : lv_has ls 4 [(0, .ref (uQ 0)), (1, .int p1)] := hl
  generalize hQ : MQ below (QI G A r (gQ G uQ (uT 0) (uC 0) (uS 0) ++ gT G uT sT iT' jT' ++ gC G uC iC tC sC ++ gS G uS iS' sS')) args s 0 0 A = QQ
  unfold f_X7_readPlain at hf
  refine lv_iload_n X.hx X.hb dX7_readPlain_0 rfl (lv_at hl 1 rfl) ?_
  refine lv_bipush (v := 16) X.hx X.hb dX7_readPlain_1 (by decide) ?_
  obtain ⟨K_1, eK_3, hf⟩ := jn_i hf
  have hj_2 : ∀ (H : Heap) (locs : List Loc) (ls : Array Slot), K_1 () = some (r, iT', jT', iS', sS') → va_P G.1 vwCl (gQ G uQ (uT 0) (uC 0) (uS 0) ++ gT G uT sT iT jT ++ gC G uC iC tC sC ++ gS G uS iS sS) H → va_D A (gQ G uQ (uT 0) (uC 0) (uS 0) ++ gT G uT sT iT jT ++ gC G uC iC tC sC ++ gS G uS iS sS) → va_S A s.heap H locs → lv_has ls 4 [(0, .ref (uQ 0)), (1, .int p1)] → W p l e (RM 4) s m args below meth c H locs 0 0 QQ (F0 m 24 ls []) := by
    intro  H locs ls hf hP hD hS hl
    rw [eK_3] at hf
    try dsimp only at hf
    refine lv_iload_n X.hx X.hb dX7_readPlain_24 rfl (lv_at hl 1 rfl) ?_
    refine lv_iconst (v := 4) X.hx X.hb dX7_readPlain_25 (by decide) ?_
    obtain ⟨K_4, eK_6, hf⟩ := jn_i hf
    have hj_5 : ∀ (H : Heap) (locs : List Loc) (ls : Array Slot), K_4 () = some (r, iT', jT', iS', sS') → va_P G.1 vwCl (gQ G uQ (uT 0) (uC 0) (uS 0) ++ gT G uT sT iT jT ++ gC G uC iC tC sC ++ gS G uS iS sS) H → va_D A (gQ G uQ (uT 0) (uC 0) (uS 0) ++ gT G uT sT iT jT ++ gC G uC iC tC sC ++ gS G uS iS sS) → va_S A s.heap H locs → lv_has ls 4 [(0, .ref (uQ 0)), (1, .int p1)] → W p l e (RM 4) s m args below meth c H locs 0 0 QQ (F0 m 34 ls []) := by
      intro  H locs ls hf hP hD hS hl
      rw [eK_6] at hf
      try dsimp only at hf
      refine lv_iload_n X.hx X.hb dX7_readPlain_34 rfl (lv_at hl 1 rfl) ?_
      refine lv_iconst (v := 4) X.hx X.hb dX7_readPlain_35 (by decide) ?_
      obtain ⟨K_7, eK_9, hf⟩ := jn_i hf
      have hj_8 : ∀ (y_10 : Int32) (iT_11 : Nat → Int32) (jT_12 : Nat → Int64) (H : Heap) (locs : List Loc) (ls : Array Slot), K_7 (y_10, iT_11, jT_12) = some (r, iT', jT', iS', sS') → va_P G.1 vwCl (gQ G uQ (uT 0) (uC 0) (uS 0) ++ gT G uT sT iT_11 jT_12 ++ gC G uC iC tC sC ++ gS G uS iS sS) H → va_D A (gQ G uQ (uT 0) (uC 0) (uS 0) ++ gT G uT sT iT_11 jT_12 ++ gC G uC iC tC sC ++ gS G uS iS sS) → va_S A s.heap H locs → lv_has ls 4 [(0, .ref (uQ 0)), (1, .int p1)] → W p l e (RM 4) s m args below meth c H locs 0 0 QQ (F0 m 64 ls [.int y_10]) := by
        intro y_10 iT_11 jT_12 H locs ls hf hP hD hS hl
        rw [eK_9] at hf
        try dsimp only at hf
        refine lv_istore_n (lv' := [(2, .int y_10), (0, .ref (uQ 0)), (1, .int p1)]) X.hx X.hb dX7_readPlain_64 rfl hl (by decide) rfl (fun ls hl => ?_)
        refine lv_iload_n X.hx X.hb dX7_readPlain_65 rfl (lv_at hl 0 rfl) ?_
        refine lv_iconst (v := (-1)) X.hx X.hb dX7_readPlain_66 (by decide) ?_
        refine lv_icmp_ne (tgt := 72) X.hx X.hb dX7_readPlain_67 (by decide) (fun hc_13 => ?_) (fun hc_13 => ?_)
        · replace hf := if_f hf hc_13
          refine lv_aload_n X.hx X.hb dX7_readPlain_72 rfl (lv_at hl 1 rfl) ?_
          refine gf_X7_12 X hP 0 rfl (v := .ref (uS 0)) rfl dX7_readPlain_73 ?_
          refine lv_iload_n X.hx X.hb dX7_readPlain_76 rfl (lv_at hl 2 rfl) ?_
          refine lv_iconst (v := (-1)) X.hx X.hb dX7_readPlain_77 (by decide) ?_
          refine lv_iload_n X.hx X.hb dX7_readPlain_78 rfl (lv_at hl 0 rfl) ?_
          obtain ⟨⟨iS_14, sS_15⟩, hc_16, hf⟩ := bd_i hf
          refine r_bvv (gQ G uQ (uT 0) (uC 0) (uS 0) ++ gT G uT sT iT_11 jT_12 ++ gC G uC iC tC sC) ([] : va_W) (As := [.int p1, .int (-1), .int y_10]) (rest := []) X sm_X7_46 (c_X6_addStep l G N uS iS sS p1 (-1) y_10 hc_16) hP hD hS hA (by simp only [List.append_assoc, List.append_nil, List.nil_append]) (wo := (gQ G uQ (uT 0) (uC 0) (uS 0) ++ gT G uT sT iT_11 jT_12 ++ gC G uC iC tC sC ++ gS G uS iS_14 sS_15)) (by simp only [List.append_assoc, List.append_nil, List.nil_append]) 0 rfl rfl rfl hl.1 (lv_room (Nat.le_of_ble_eq_true rfl)) ⟨Nat.le_of_ble_eq_true rfl, Nat.le_of_ble_eq_true rfl⟩ ⟨Nat.zero_le _, Nat.zero_le _⟩ dX7_readPlain_79 (fun H locs hP hD hS => ?_)
          refine lv_iconst (v := 1) X.hx X.hb dX7_readPlain_82 (by decide) ?_
          cases hf
          subst hQ
          exact r_zret X hP hD hS (by decide) dX7_readPlain_83
        · replace hf := if_t hf hc_13
          refine lv_iconst (v := 0) X.hx X.hb dX7_readPlain_70 (by decide) ?_
          cases hf
          subst hQ
          exact r_zret X hP hD hS (by decide) dX7_readPlain_71
      refine lv_icmp_ne (tgt := 53) X.hx X.hb dX7_readPlain_36 (by decide) (fun hc_17 => ?_) (fun hc_17 => ?_)
      · replace hf := if_f hf hc_17
        refine lv_aload_n X.hx X.hb dX7_readPlain_53 rfl (lv_at hl 0 rfl) ?_
        refine gf_X7_18 X hP 0 rfl (v := .ref (uT 0)) rfl dX7_readPlain_54 ?_
        refine lv_aload_n X.hx X.hb dX7_readPlain_57 rfl (lv_at hl 0 rfl) ?_
        refine gf_X7_22 X hP 0 rfl (v := .ref (uC 0)) rfl dX7_readPlain_58 ?_
        obtain ⟨⟨r_18, iT_19, jT_20⟩, hc_21, hf⟩ := bd_i hf
        refine r_bvi (gQ G uQ (uT 0) (uC 0) (uS 0)) (gS G uS iS sS) (As := [.ref (uC 0)]) (rest := []) X sm_X7_79 (c_X8_passGood l G N uT uC sT iT jT iC tC sC hc_21) hP hD hS hA (by simp only [List.append_assoc, List.append_nil, List.nil_append]) (wo := (gQ G uQ (uT 0) (uC 0) (uS 0) ++ gT G uT sT iT_19 jT_20 ++ gC G uC iC tC sC ++ gS G uS iS sS)) (by simp only [List.append_assoc, List.append_nil, List.nil_append]) 0 rfl rfl rfl hl.1 (lv_room (Nat.le_of_ble_eq_true rfl)) ⟨Nat.le_of_ble_eq_true rfl, Nat.le_of_ble_eq_true rfl⟩ ⟨Nat.zero_le _, Nat.zero_le _⟩ dX7_readPlain_61 (fun H locs hP hD hS => ?_)
        exact hj_8 _ _ _ _ _ _ hf hP hD hS (lv_sub hl [0, 1] rfl)
      · replace hf := if_t hf hc_17
        refine lv_aload_n X.hx X.hb dX7_readPlain_39 rfl (lv_at hl 0 rfl) ?_
        refine gf_X7_18 X hP 0 rfl (v := .ref (uT 0)) rfl dX7_readPlain_40 ?_
        refine lv_aload_n X.hx X.hb dX7_readPlain_43 rfl (lv_at hl 0 rfl) ?_
        refine gf_X7_22 X hP 0 rfl (v := .ref (uC 0)) rfl dX7_readPlain_44 ?_
        obtain ⟨⟨r_22, iT_23, jT_24⟩, hc_25, hf⟩ := bd_i hf
        refine r_bvi (gQ G uQ (uT 0) (uC 0) (uS 0)) (gS G uS iS sS) (As := [.ref (uC 0)]) (rest := []) X sm_X7_75 (c_X8_passPerson l G N uT uC sT iT jT iC tC sC hc_25) hP hD hS hA (by simp only [List.append_assoc, List.append_nil, List.nil_append]) (wo := (gQ G uQ (uT 0) (uC 0) (uS 0) ++ gT G uT sT iT_23 jT_24 ++ gC G uC iC tC sC ++ gS G uS iS sS)) (by simp only [List.append_assoc, List.append_nil, List.nil_append]) 0 rfl rfl rfl hl.1 (lv_room (Nat.le_of_ble_eq_true rfl)) ⟨Nat.le_of_ble_eq_true rfl, Nat.le_of_ble_eq_true rfl⟩ ⟨Nat.zero_le _, Nat.zero_le _⟩ dX7_readPlain_47 (fun H locs hP hD hS => ?_)
        refine lv_goto (tgt := 64) X.hx X.hb dX7_readPlain_50 (by decide) ?_
        exact hj_8 _ _ _ _ _ _ hf hP hD hS (lv_sub hl [0, 1] rfl)
    refine lv_icmp_eq (tgt := 34) X.hx X.hb dX7_readPlain_26 (by decide) (fun hc_26 => ?_) (fun hc_26 => ?_)
    · replace hf := if_t hf hc_26
      exact hj_5 _ _ _ hf hP hD hS (lv_sub hl [0, 1] rfl)
    · replace hf := if_f hf hc_26
      refine lv_iload_n X.hx X.hb dX7_readPlain_29 rfl (lv_at hl 1 rfl) ?_
      refine lv_iconst (v := 3) X.hx X.hb dX7_readPlain_30 (by decide) ?_
      refine lv_icmp_ne (tgt := 84) X.hx X.hb dX7_readPlain_31 (by decide) (fun hc_27 => ?_) (fun hc_27 => ?_)
      · replace hf := if_f hf hc_27
        refine lv_aload_n X.hx X.hb dX7_readPlain_84 rfl (lv_at hl 0 rfl) ?_
        refine gf_X7_18 X hP 0 rfl (v := .ref (uT 0)) rfl dX7_readPlain_85 ?_
        refine gf_X7_57 X hP 1 rfl (v := .int (iT 8)) rfl dX7_readPlain_88 ?_
        refine lv_istore_n (lv' := [(2, .int (iT 8)), (0, .ref (uQ 0)), (1, .int p1)]) X.hx X.hb dX7_readPlain_91 rfl hl (by decide) rfl (fun ls hl => ?_)
        refine lv_iload_n X.hx X.hb dX7_readPlain_92 rfl (lv_at hl 0 rfl) ?_
        refine lv_bipush (v := 60) X.hx X.hb dX7_readPlain_93 (by decide) ?_
        obtain ⟨K_28, eK_30, hf⟩ := jn_i hf
        have hj_29 : ∀ (H : Heap) (locs : List Loc) (ls : Array Slot), K_28 () = some (r, iT', jT', iS', sS') → va_P G.1 vwCl (gQ G uQ (uT 0) (uC 0) (uS 0) ++ gT G uT sT iT jT ++ gC G uC iC tC sC ++ gS G uS iS sS) H → va_D A (gQ G uQ (uT 0) (uC 0) (uS 0) ++ gT G uT sT iT jT ++ gC G uC iC tC sC ++ gS G uS iS sS) → va_S A s.heap H locs → lv_has ls 4 [(0, .ref (uQ 0)), (1, .int p1), (2, .int (iT 8))] → W p l e (RM 4) s m args below meth c H locs 0 0 QQ (F0 m 119 ls []) := by
          intro  H locs ls hf hP hD hS hl
          rw [eK_30] at hf
          try dsimp only at hf
          refine lv_aload_n X.hx X.hb dX7_readPlain_119 rfl (lv_at hl 0 rfl) ?_
          refine gf_X7_18 X hP 0 rfl (v := .ref (uT 0)) rfl dX7_readPlain_120 ?_
          obtain ⟨⟨iT_31, jT_32⟩, hc_33, hf⟩ := bd_i hf
          refine r_bvv (gQ G uQ (uT 0) (uC 0) (uS 0)) (gC G uC iC tC sC ++ gS G uS iS sS) (As := []) (rest := []) X sm_X7_54 (c_X8_next l G N uT sT iT jT hc_33) hP hD hS hA (by simp only [List.append_assoc, List.append_nil, List.nil_append]) (wo := (gQ G uQ (uT 0) (uC 0) (uS 0) ++ gT G uT sT iT_31 jT_32 ++ gC G uC iC tC sC ++ gS G uS iS sS)) (by simp only [List.append_assoc, List.append_nil, List.nil_append]) 0 rfl rfl rfl hl.1 (lv_room (Nat.le_of_ble_eq_true rfl)) ⟨Nat.le_of_ble_eq_true rfl, Nat.le_of_ble_eq_true rfl⟩ ⟨Nat.zero_le _, Nat.zero_le _⟩ dX7_readPlain_123 (fun H locs hP hD hS => ?_)
          refine lv_aload_n X.hx X.hb dX7_readPlain_126 rfl (lv_at hl 0 rfl) ?_
          refine gf_X7_18 X hP 0 rfl (v := .ref (uT 0)) rfl dX7_readPlain_127 ?_
          refine lv_iconst (v := 0) X.hx X.hb dX7_readPlain_130 (by decide) ?_
          refine lv_sipush (v := 999) X.hx X.hb dX7_readPlain_131 (by decide) ?_
          obtain ⟨⟨r_34, iT_35, jT_36⟩, hc_37, hf⟩ := bd_i hf
          refine r_bvi (gQ G uQ (uT 0) (uC 0) (uS 0)) (gC G uC iC tC sC ++ gS G uS iS sS) (As := [.int 0, .int 999]) (rest := []) X sm_X7_82 (c_X8_passNumber l G N uT sT iT_31 jT_32 0 999 hc_37) hP hD hS hA (by simp only [List.append_assoc, List.append_nil, List.nil_append]) (wo := (gQ G uQ (uT 0) (uC 0) (uS 0) ++ gT G uT sT iT_35 jT_36 ++ gC G uC iC tC sC ++ gS G uS iS sS)) (by simp only [List.append_assoc, List.append_nil, List.nil_append]) 0 rfl rfl rfl hl.1 (lv_room (Nat.le_of_ble_eq_true rfl)) ⟨Nat.le_of_ble_eq_true rfl, Nat.le_of_ble_eq_true rfl⟩ ⟨Nat.zero_le _, Nat.zero_le _⟩ dX7_readPlain_134 (fun H locs hP hD hS => ?_)
          refine lv_istore_n (lv' := [(3, .int r_34), (0, .ref (uQ 0)), (1, .int p1), (2, .int (iT 8))]) X.hx X.hb dX7_readPlain_137 rfl hl (by decide) rfl (fun ls hl => ?_)
          refine lv_iload_n X.hx X.hb dX7_readPlain_138 rfl (lv_at hl 0 rfl) ?_
          refine lv_iconst (v := (-1)) X.hx X.hb dX7_readPlain_139 (by decide) ?_
          refine lv_icmp_ne (tgt := 145) X.hx X.hb dX7_readPlain_140 (by decide) (fun hc_38 => ?_) (fun hc_38 => ?_)
          · replace hf := if_f hf hc_38
            refine lv_aload_n X.hx X.hb dX7_readPlain_145 rfl (lv_at hl 1 rfl) ?_
            refine gf_X7_12 X hP 0 rfl (v := .ref (uS 0)) rfl dX7_readPlain_146 ?_
            refine lv_iload_n X.hx X.hb dX7_readPlain_149 rfl (lv_at hl 2 rfl) ?_
            refine lv_iload_n X.hx X.hb dX7_readPlain_150 rfl (lv_at hl 3 rfl) ?_
            refine lv_iload_n X.hx X.hb dX7_readPlain_151 rfl (lv_at hl 0 rfl) ?_
            obtain ⟨⟨iS_39, sS_40⟩, hc_41, hf⟩ := bd_i hf
            refine r_bvv (gQ G uQ (uT 0) (uC 0) (uS 0) ++ gT G uT sT iT_35 jT_36 ++ gC G uC iC tC sC) ([] : va_W) (As := [.int p1, .int (iT 8), .int r_34]) (rest := []) X sm_X7_46 (c_X6_addStep l G N uS iS sS p1 (iT 8) r_34 hc_41) hP hD hS hA (by simp only [List.append_assoc, List.append_nil, List.nil_append]) (wo := (gQ G uQ (uT 0) (uC 0) (uS 0) ++ gT G uT sT iT_35 jT_36 ++ gC G uC iC tC sC ++ gS G uS iS_39 sS_40)) (by simp only [List.append_assoc, List.append_nil, List.nil_append]) 0 rfl rfl rfl hl.1 (lv_room (Nat.le_of_ble_eq_true rfl)) ⟨Nat.le_of_ble_eq_true rfl, Nat.le_of_ble_eq_true rfl⟩ ⟨Nat.zero_le _, Nat.zero_le _⟩ dX7_readPlain_152 (fun H locs hP hD hS => ?_)
            refine lv_iconst (v := 1) X.hx X.hb dX7_readPlain_155 (by decide) ?_
            cases hf
            subst hQ
            exact r_zret X hP hD hS (by decide) dX7_readPlain_156
          · replace hf := if_t hf hc_38
            refine lv_iconst (v := 0) X.hx X.hb dX7_readPlain_143 (by decide) ?_
            cases hf
            subst hQ
            exact r_zret X hP hD hS (by decide) dX7_readPlain_144
        refine lv_icmp_eq (tgt := 119) X.hx X.hb dX7_readPlain_95 (by decide) (fun hc_42 => ?_) (fun hc_42 => ?_)
        · replace hf := if_t hf hc_42
          exact hj_29 _ _ _ hf hP hD hS (lv_sub hl [1, 2, 0] rfl)
        · replace hf := if_f hf hc_42
          refine lv_iload_n X.hx X.hb dX7_readPlain_98 rfl (lv_at hl 0 rfl) ?_
          refine lv_bipush (v := 61) X.hx X.hb dX7_readPlain_99 (by decide) ?_
          refine lv_icmp_eq (tgt := 119) X.hx X.hb dX7_readPlain_101 (by decide) (fun hc_43 => ?_) (fun hc_43 => ?_)
          · replace hf := if_t hf hc_43
            exact hj_29 _ _ _ hf hP hD hS (lv_sub hl [1, 2, 0] rfl)
          · replace hf := if_f hf hc_43
            refine lv_iload_n X.hx X.hb dX7_readPlain_104 rfl (lv_at hl 0 rfl) ?_
            refine lv_bipush (v := 62) X.hx X.hb dX7_readPlain_105 (by decide) ?_
            refine lv_icmp_eq (tgt := 119) X.hx X.hb dX7_readPlain_107 (by decide) (fun hc_44 => ?_) (fun hc_44 => ?_)
            · replace hf := if_t hf hc_44
              exact hj_29 _ _ _ hf hP hD hS (lv_sub hl [1, 2, 0] rfl)
            · replace hf := if_f hf hc_44
              refine lv_aload_n X.hx X.hb dX7_readPlain_110 rfl (lv_at hl 1 rfl) ?_
              refine gf_X7_18 X hP 0 rfl (v := .ref (uT 0)) rfl dX7_readPlain_111 ?_
              refine lv_iconst (v := 1) X.hx X.hb dX7_readPlain_114 (by decide) ?_
              obtain ⟨⟨r_45, iT_46⟩, hc_47, hf⟩ := bd_i hf
              refine r_bvi (gQ G uQ (uT 0) (uC 0) (uS 0)) (gC G uC iC tC sC ++ gS G uS iS sS) (As := [.int 1]) (rest := []) X sm_X7_63 (c_X8_refuse l G N uT sT iT jT 1 hc_47) hP hD hS hA (by simp only [List.append_assoc, List.append_nil, List.nil_append]) (wo := (gQ G uQ (uT 0) (uC 0) (uS 0) ++ gT G uT sT iT_46 jT ++ gC G uC iC tC sC ++ gS G uS iS sS)) (by simp only [List.append_assoc, List.append_nil, List.nil_append]) 0 rfl rfl rfl hl.1 (lv_room (Nat.le_of_ble_eq_true rfl)) ⟨Nat.le_of_ble_eq_true rfl, Nat.le_of_ble_eq_true rfl⟩ ⟨Nat.zero_le _, Nat.zero_le _⟩ dX7_readPlain_115 (fun H locs hP hD hS => ?_)
              obtain ⟨hb_48, hf⟩ := zb_i hf
              cases hf
              subst hQ
              exact r_zret X hP hD hS hb_48 dX7_readPlain_118
      · replace hf := if_t hf hc_27
        exact hj_5 _ _ _ hf hP hD hS (lv_sub hl [0, 1] rfl)
  refine lv_icmp_lt (tgt := 24) X.hx X.hb dX7_readPlain_3 (by decide) (fun hc_49 => ?_) (fun hc_49 => ?_)
  · replace hf := if_t hf hc_49
    exact hj_2 _ _ _ hf hP hD hS (lv_sub hl [0, 1] rfl)
  · replace hf := if_f hf hc_49
    refine lv_iload_n X.hx X.hb dX7_readPlain_6 rfl (lv_at hl 1 rfl) ?_
    refine lv_bipush (v := 19) X.hx X.hb dX7_readPlain_7 (by decide) ?_
    refine lv_icmp_gt (tgt := 24) X.hx X.hb dX7_readPlain_9 (by decide) (fun hc_50 => ?_) (fun hc_50 => ?_)
    · replace hf := if_t hf hc_50
      exact hj_2 _ _ _ hf hP hD hS (lv_sub hl [0, 1] rfl)
    · replace hf := if_f hf hc_50
      refine lv_aload_n X.hx X.hb dX7_readPlain_12 rfl (lv_at hl 0 rfl) ?_
      refine gf_X7_12 X hP 0 rfl (v := .ref (uS 0)) rfl dX7_readPlain_13 ?_
      refine lv_iload_n X.hx X.hb dX7_readPlain_16 rfl (lv_at hl 1 rfl) ?_
      refine lv_iconst (v := (-1)) X.hx X.hb dX7_readPlain_17 (by decide) ?_
      refine lv_iconst (v := (-1)) X.hx X.hb dX7_readPlain_18 (by decide) ?_
      obtain ⟨⟨iS_51, sS_52⟩, hc_53, hf⟩ := bd_i hf
      refine r_bvv (gQ G uQ (uT 0) (uC 0) (uS 0) ++ gT G uT sT iT jT ++ gC G uC iC tC sC) ([] : va_W) (As := [.int p1, .int (-1), .int (-1)]) (rest := []) X sm_X7_46 (c_X6_addStep l G N uS iS sS p1 (-1) (-1) hc_53) hP hD hS hA (by simp only [List.append_assoc, List.append_nil, List.nil_append]) (wo := (gQ G uQ (uT 0) (uC 0) (uS 0) ++ gT G uT sT iT jT ++ gC G uC iC tC sC ++ gS G uS iS_51 sS_52)) (by simp only [List.append_assoc, List.append_nil, List.nil_append]) 0 rfl rfl rfl hl.1 (lv_room (Nat.le_of_ble_eq_true rfl)) ⟨Nat.le_of_ble_eq_true rfl, Nat.le_of_ble_eq_true rfl⟩ ⟨Nat.zero_le _, Nat.zero_le _⟩ dX7_readPlain_19 (fun H locs hP hD hS => ?_)
      refine lv_iconst (v := 1) X.hx X.hb dX7_readPlain_22 (by decide) ?_
      cases hf
      subst hQ
      exact r_zret X hP hD hS (by decide) dX7_readPlain_23

def f_X7_beginsOne (N : Nat) (p1 : Int32) : Option (Int32) :=
  (if p1 = 4 then some 1 else (if p1 = 3 then some 1 else (if p1 < 15 then some 0 else (if (23 : Int32) < p1 then some 0 else some 1))))
set_option maxHeartbeats 4000000 in
set_option maxRecDepth 100000 in
theorem c_X7_beginsOne (l : Launch) (G : GT) (N : Nat) (p1 : Int32) {r : Int32} (hf : f_X7_beginsOne N p1 = some r) : CI l G yX7_beginsOne cX7_beginsOne 1 .boolean 1 [.int p1] ([] : va_W) r ([] : va_W) := by
  refine CI.of (by decide) (Nat.le_of_ble_eq_true rfl) ?_
  intro p e s m args below meth c A X hA hP hD hS ls hl
  have hl : lv_has ls 1 [(0, .int p1)] := hl
  generalize hQ : MQ below (QI G A r ([] : va_W)) args s 0 0 A = QQ
  unfold f_X7_beginsOne at hf
  refine lv_iload_n X.hx X.hb dX7_beginsOne_0 rfl (lv_at hl 0 rfl) ?_
  refine lv_iconst (v := 4) X.hx X.hb dX7_beginsOne_1 (by decide) ?_
  refine lv_icmp_eq (tgt := 22) X.hx X.hb dX7_beginsOne_2 (by decide) (fun hc_1 => ?_) (fun hc_1 => ?_)
  · replace hf := if_t hf hc_1
    refine lv_iconst (v := 1) X.hx X.hb dX7_beginsOne_22 (by decide) ?_
    refine lv_goto (tgt := 27) X.hx X.hb dX7_beginsOne_23 (by decide) ?_
    cases hf
    subst hQ
    exact r_zret X hP hD hS (by decide) dX7_beginsOne_27
  · replace hf := if_f hf hc_1
    refine lv_iload_n X.hx X.hb dX7_beginsOne_5 rfl (lv_at hl 0 rfl) ?_
    refine lv_iconst (v := 3) X.hx X.hb dX7_beginsOne_6 (by decide) ?_
    refine lv_icmp_eq (tgt := 22) X.hx X.hb dX7_beginsOne_7 (by decide) (fun hc_2 => ?_) (fun hc_2 => ?_)
    · replace hf := if_t hf hc_2
      refine lv_iconst (v := 1) X.hx X.hb dX7_beginsOne_22 (by decide) ?_
      refine lv_goto (tgt := 27) X.hx X.hb dX7_beginsOne_23 (by decide) ?_
      cases hf
      subst hQ
      exact r_zret X hP hD hS (by decide) dX7_beginsOne_27
    · replace hf := if_f hf hc_2
      refine lv_iload_n X.hx X.hb dX7_beginsOne_10 rfl (lv_at hl 0 rfl) ?_
      refine lv_bipush (v := 15) X.hx X.hb dX7_beginsOne_11 (by decide) ?_
      refine lv_icmp_lt (tgt := 26) X.hx X.hb dX7_beginsOne_13 (by decide) (fun hc_3 => ?_) (fun hc_3 => ?_)
      · replace hf := if_t hf hc_3
        refine lv_iconst (v := 0) X.hx X.hb dX7_beginsOne_26 (by decide) ?_
        cases hf
        subst hQ
        exact r_zret X hP hD hS (by decide) dX7_beginsOne_27
      · replace hf := if_f hf hc_3
        refine lv_iload_n X.hx X.hb dX7_beginsOne_16 rfl (lv_at hl 0 rfl) ?_
        refine lv_bipush (v := 23) X.hx X.hb dX7_beginsOne_17 (by decide) ?_
        refine lv_icmp_gt (tgt := 26) X.hx X.hb dX7_beginsOne_19 (by decide) (fun hc_4 => ?_) (fun hc_4 => ?_)
        · replace hf := if_t hf hc_4
          refine lv_iconst (v := 0) X.hx X.hb dX7_beginsOne_26 (by decide) ?_
          cases hf
          subst hQ
          exact r_zret X hP hD hS (by decide) dX7_beginsOne_27
        · replace hf := if_f hf hc_4
          refine lv_iconst (v := 1) X.hx X.hb dX7_beginsOne_22 (by decide) ?_
          refine lv_goto (tgt := 27) X.hx X.hb dX7_beginsOne_23 (by decide) ?_
          cases hf
          subst hQ
          exact r_zret X hP hD hS (by decide) dX7_beginsOne_27

abbrev RF : Type := (Nat → Nat → Int32) → (Nat → Int32) → (Nat → Int64) → (Nat → Int32) → (Nat → Nat → Int64) → (Nat → Nat → Int32) → (Nat → Int32) → (Nat → Nat → Int32) → Int32 → Option (Int32 × (Nat → Int32) × (Nat → Int64) × (Nat → Int32) × (Nat → Nat → Int32))
def RFok (l : Launch) (G : GT) (L : Nat) (y : MethodName) (c : ByteArray) (n : Nat) (f : RF) : Prop := ∀ (uQ uT uC uS : Nat → Nat) (sT : Nat → Nat → Int32) (iT : Nat → Int32) (jT : Nat → Int64) (iC : Nat → Int32) (tC : Nat → Nat → Int64) (sC : Nat → Nat → Int32) (iS : Nat → Int32) (sS : Nat → Nat → Int32) (p1 : Int32) {r : Int32} {iT' : Nat → Int32} {jT' : Nat → Int64} {iS' : Nat → Int32} {sS' : Nat → Nat → Int32}, f sT iT jT iC tC sC iS sS p1 = some (r, iT', jT', iS', sS') → CI l G y c n .boolean L [.ref (uQ 0), .int p1] (gQ G uQ (uT 0) (uC 0) (uS 0) ++ gT G uT sT iT jT ++ gC G uC iC tC sC ++ gS G uS iS sS) r (gQ G uQ (uT 0) (uC 0) (uS 0) ++ gT G uT sT iT' jT' ++ gC G uC iC tC sC ++ gS G uS iS' sS')
theorem rm_f {d2 d : Nat} (h : d2 + 1 ≤ d) : d2 + 1 ≤ (RM d).frames := h
theorem rm_l {n2 d2 d : Nat} (h : 8 + (n2 + 11) + 60 * d2 ≤ 60 * d) : 8 + (n2 + 11) + 60 * d2 ≤ (RM d).locals := h
def f_X7_readOne_o (N : Nat) (ro rc : RF) (sT : Nat → Nat → Int32) (iT : Nat → Int32) (jT : Nat → Int64) (iC : Nat → Int32) (tC : Nat → Nat → Int64) (sC : Nat → Nat → Int32) (iS : Nat → Int32) (sS : Nat → Nat → Int32) (p1 : Int32) : Option (Int32 × (Nat → Int32) × (Nat → Int64) × (Nat → Int32) × (Nat → Nat → Int32)) :=
  jn (fun (z : (Int32)) => match z with | y_4 => jn (fun (z : Unit) => match z with | () => jn (fun (z : Unit) => match z with | () => bd (f_X8_refuse N sT iT jT 4) (fun (r_11, iT_12) => zb r_11 (some (r_11, iT_12, jT, iS, sS)))) (fun K_8 => (if (20 : Int32) ≤ (iS 0) then K_8 () else (if p1 ≤ 8 then bd (f_X8_next N sT iT jT) (fun (iT_17, jT_18) => (if y_4 = 0 then (if (iT 7) = 15 then bd (ro sT iT_17 jT_18 iC tC sC (va_up iS 0 ((iS 0) + 1)) sS (p1 + 1)) (fun (r_22, iT_23, jT_24, iS_25, sS_26) => (if r_22 = 0 then some (0, iT_23, jT_24, iS_25, sS_26) else bd (f_X6_addStep N iS_25 sS_26 15 (-1) (-1)) (fun (iS_29, sS_30) => some (1, iT_23, jT_24, iS_29, sS_30)))) else bd (f_X7_readPlain N sT iT_17 jT_18 iC tC sC (va_up iS 0 ((iS 0) + 1)) sS (iT 7)) (fun (r_32, iT_33, jT_34, iS_35, sS_36) => zb r_32 (some (r_32, iT_33, jT_34, iS_35, sS_36)))) else bd (rc sT iT_17 jT_18 iC tC sC (va_up iS 0 ((iS 0) + 1)) sS (p1 + 1)) (fun (r_39, iT_40, jT_41, iS_42, sS_43) => (if r_39 = 0 then some (0, iT_40, jT_41, iS_42, sS_43) else bd (f_X8_passSign N sT iT_40 jT_41 41) (fun (r_46, iT_47, jT_48) => (if r_46 = 0 then some (0, iT_47, jT_48, iS_42, sS_43) else some (1, iT_47, jT_48, iS_42, sS_43))))))) else K_8 ())))) (fun K_5 => (if y_4 = 0 then bd (f_X7_beginsOne N (iT 7)) (fun r_52 => (if r_52 = 0 then bd (f_X8_refuse N sT iT jT 1) (fun (r_55, iT_56) => zb r_55 (some (r_55, iT_56, jT, iS, sS))) else K_5 ())) else K_5 ()))) (fun K_1 => (if (iT 8) = 40 then K_1 1 else K_1 0))
def f_X7_readCond_o_7 (N : Nat) (ro rc : RF) (sT : Nat → Nat → Int32) (iC : Nat → Int32) (tC : Nat → Nat → Int64) (sC : Nat → Nat → Int32) (v1 : Int32) : Nat → (Nat → Int32) → (Nat → Int64) → (Nat → Int32) → (Nat → Nat → Int32) → (Int32) → (Int32) → (Int32) → Option (Int32 × (Nat → Int32) × (Nat → Int64) × (Nat → Int32) × (Nat → Nat → Int32))
  | 0, _, _, _, _, _, _, _ => none
  | k + 1, iT, jT, iS, sS, v2, v3, v4 => (if (20 : Int32) < v4 then some (0, iT, jT, iS, sS) else bd (ro sT iT jT iC tC sC iS sS v1) (fun (r_59, iT_60, jT_61, iS_62, sS_63) => (if r_59 = 0 then some (0, iT_60, jT_61, iS_62, sS_63) else jn (fun (z : (Nat → Int32) × (Nat → Nat → Int32)) => match z with | (iS_69, sS_70) => jn (fun (z : (Int32)) => match z with | y_74 => jn (fun (z : (Nat → Int32) × (Nat → Nat → Int32)) => match z with | (iS_78, sS_79) => jn (fun (z : Unit) => match z with | () => jn (fun (z : (Int32)) => match z with | y_86 => bd (f_X8_next N sT iT_60 jT_61) (fun (iT_87, jT_88) => f_X7_readCond_o_7 N ro rc sT iC tC sC v1 k iT_87 jT_88 iS_78 sS_79 y_74 y_86 (v4 + 1))) (fun K_83 => jn (fun (z : Unit) => match z with | () => K_83 1) (fun K_90 => (if v3 = 0 then (if y_74 = 0 then K_90 () else K_83 0) else K_90 ())))) (fun K_80 => (if y_74 = 0 then (if (iT_60 7) = 13 then K_80 () else some (1, iT_60, jT_61, iS_78, sS_79)) else K_80 ()))) (fun K_75 => (if y_74 = 0 then (if v3 = 0 then K_75 (iS_69, sS_70) else bd (f_X6_addStep N iS_69 sS_70 13 (-1) (-1)) (fun (iS_99, sS_100) => K_75 (iS_99, sS_100))) else K_75 (iS_69, sS_70)))) (fun K_71 => (if (iT_60 7) = 14 then K_71 1 else K_71 0))) (fun K_66 => (if v2 = 0 then K_66 (iS_62, sS_63) else bd (f_X6_addStep N iS_62 sS_63 14 (-1) (-1)) (fun (iS_104, sS_105) => K_66 (iS_104, sS_105)))))))
def f_X7_readCond_o (N : Nat) (ro rc : RF) (sT : Nat → Nat → Int32) (iT : Nat → Int32) (jT : Nat → Int64) (iC : Nat → Int32) (tC : Nat → Nat → Int64) (sC : Nat → Nat → Int32) (iS : Nat → Int32) (sS : Nat → Nat → Int32) (p1 : Int32) : Option (Int32 × (Nat → Int32) × (Nat → Int64) × (Nat → Int32) × (Nat → Nat → Int32)) :=
  f_X7_readCond_o_7 N ro rc sT iC tC sC p1 N iT jT iS sS 0 0 0
set_option maxHeartbeats 4000000 in
set_option maxRecDepth 100000 in
theorem c_X7_readOne_o (l : Launch) (G : GT) (N : Nat) (uQ uT uC uS : Nat → Nat) (L : Nat) (hL : 5 ≤ L) (ro rc : RF) (hro : RFok l G L yX7_readOne cX7_readOne 4 ro) (hrc : RFok l G L yX7_readCond cX7_readCond 5 rc) (sT : Nat → Nat → Int32) (iT : Nat → Int32) (jT : Nat → Int64) (iC : Nat → Int32) (tC : Nat → Nat → Int64) (sC : Nat → Nat → Int32) (iS : Nat → Int32) (sS : Nat → Nat → Int32) (p1 : Int32) {r : Int32} {iT' : Nat → Int32} {jT' : Nat → Int64} {iS' : Nat → Int32} {sS' : Nat → Nat → Int32} (hf : f_X7_readOne_o N ro rc sT iT jT iC tC sC iS sS p1 = some (r, iT', jT', iS', sS')) : CI l G yX7_readOne cX7_readOne 4 .boolean (L + 1) [.ref (uQ 0), .int p1] (gQ G uQ (uT 0) (uC 0) (uS 0) ++ gT G uT sT iT jT ++ gC G uC iC tC sC ++ gS G uS iS sS) r (gQ G uQ (uT 0) (uC 0) (uS 0) ++ gT G uT sT iT' jT' ++ gC G uC iC tC sC ++ gS G uS iS' sS') := by
  refine CI.of (by decide) (Nat.le_of_ble_eq_true rfl) ?_
  intro p e s m args below meth c A X hA hP hD hS ls hl
  have hl : lv_has ls 4 [(0, .ref (uQ 0)), (1, .int p1)] := hl
  generalize hQ : MQ below (QI G A r (gQ G uQ (uT 0) (uC 0) (uS 0) ++ gT G uT sT iT' jT' ++ gC G uC iC tC sC ++ gS G uS iS' sS')) args s 0 0 A = QQ
  unfold f_X7_readOne_o at hf
  refine lv_aload_n X.hx X.hb dX7_readOne_0 rfl (lv_at hl 0 rfl) ?_
  refine gf_X7_18 X hP 0 rfl (v := .ref (uT 0)) rfl dX7_readOne_1 ?_
  refine gf_X7_57 X hP 1 rfl (v := .int (iT 8)) rfl dX7_readOne_4 ?_
  refine lv_bipush (v := 40) X.hx X.hb dX7_readOne_7 (by decide) ?_
  obtain ⟨K_1, eK_3, hf⟩ := jn_i hf
  have hj_2 : ∀ (y_4 : Int32) (H : Heap) (locs : List Loc) (ls : Array Slot), K_1 y_4 = some (r, iT', jT', iS', sS') → va_P G.1 vwCl (gQ G uQ (uT 0) (uC 0) (uS 0) ++ gT G uT sT iT jT ++ gC G uC iC tC sC ++ gS G uS iS sS) H → va_D A (gQ G uQ (uT 0) (uC 0) (uS 0) ++ gT G uT sT iT jT ++ gC G uC iC tC sC ++ gS G uS iS sS) → va_S A s.heap H locs → lv_has ls 4 [(0, .ref (uQ 0)), (1, .int p1)] → W p l e (RM (L + 1)) s m args below meth c H locs 0 0 QQ (F0 m 17 ls [.int y_4]) := by
    intro y_4 H locs ls hf hP hD hS hl
    rw [eK_3] at hf
    try dsimp only at hf
    refine lv_istore_n (lv' := [(2, .int y_4), (0, .ref (uQ 0)), (1, .int p1)]) X.hx X.hb dX7_readOne_17 rfl hl (by decide) rfl (fun ls hl => ?_)
    refine lv_aload_n X.hx X.hb dX7_readOne_18 rfl (lv_at hl 1 rfl) ?_
    refine gf_X7_18 X hP 0 rfl (v := .ref (uT 0)) rfl dX7_readOne_19 ?_
    refine gf_X7_50 X hP 1 rfl (v := .int (iT 7)) rfl dX7_readOne_22 ?_
    refine lv_istore_n (lv' := [(3, .int (iT 7)), (2, .int y_4), (0, .ref (uQ 0)), (1, .int p1)]) X.hx X.hb dX7_readOne_25 rfl hl (by decide) rfl (fun ls hl => ?_)
    refine lv_iload_n X.hx X.hb dX7_readOne_26 rfl (lv_at hl 1 rfl) ?_
    obtain ⟨K_5, eK_7, hf⟩ := jn_i hf
    have hj_6 : ∀ (H : Heap) (locs : List Loc) (ls : Array Slot), K_5 () = some (r, iT', jT', iS', sS') → va_P G.1 vwCl (gQ G uQ (uT 0) (uC 0) (uS 0) ++ gT G uT sT iT jT ++ gC G uC iC tC sC ++ gS G uS iS sS) H → va_D A (gQ G uQ (uT 0) (uC 0) (uS 0) ++ gT G uT sT iT jT ++ gC G uC iC tC sC ++ gS G uS iS sS) → va_S A s.heap H locs → lv_has ls 4 [(0, .ref (uQ 0)), (1, .int p1), (2, .int y_4), (3, .int (iT 7))] → W p l e (RM (L + 1)) s m args below meth c H locs 0 0 QQ (F0 m 46 ls []) := by
      intro  H locs ls hf hP hD hS hl
      rw [eK_7] at hf
      try dsimp only at hf
      refine lv_aload_n X.hx X.hb dX7_readOne_46 rfl (lv_at hl 0 rfl) ?_
      refine gf_X7_12 X hP 0 rfl (v := .ref (uS 0)) rfl dX7_readOne_47 ?_
      refine gf_X7_66 X hP 12 rfl (v := .int (iS 0)) rfl dX7_readOne_50 ?_
      refine lv_bipush (v := 20) X.hx X.hb dX7_readOne_53 (by decide) ?_
      obtain ⟨K_8, eK_10, hf⟩ := jn_i hf
      have hj_9 : ∀ (H : Heap) (locs : List Loc) (ls : Array Slot), K_8 () = some (r, iT', jT', iS', sS') → va_P G.1 vwCl (gQ G uQ (uT 0) (uC 0) (uS 0) ++ gT G uT sT iT jT ++ gC G uC iC tC sC ++ gS G uS iS sS) H → va_D A (gQ G uQ (uT 0) (uC 0) (uS 0) ++ gT G uT sT iT jT ++ gC G uC iC tC sC ++ gS G uS iS sS) → va_S A s.heap H locs → lv_has ls 4 [(0, .ref (uQ 0))] → W p l e (RM (L + 1)) s m args below meth c H locs 0 0 QQ (F0 m 64 ls []) := by
        intro  H locs ls hf hP hD hS hl
        rw [eK_10] at hf
        try dsimp only at hf
        refine lv_aload_n X.hx X.hb dX7_readOne_64 rfl (lv_at hl 0 rfl) ?_
        refine gf_X7_18 X hP 0 rfl (v := .ref (uT 0)) rfl dX7_readOne_65 ?_
        refine lv_iconst (v := 4) X.hx X.hb dX7_readOne_68 (by decide) ?_
        obtain ⟨⟨r_11, iT_12⟩, hc_13, hf⟩ := bd_i hf
        refine r_bvi (gQ G uQ (uT 0) (uC 0) (uS 0)) (gC G uC iC tC sC ++ gS G uS iS sS) (As := [.int 4]) (rest := []) X sm_X7_63 (c_X8_refuse l G N uT sT iT jT 4 hc_13) hP hD hS hA (by simp only [List.append_assoc, List.append_nil, List.nil_append]) (wo := (gQ G uQ (uT 0) (uC 0) (uS 0) ++ gT G uT sT iT_12 jT ++ gC G uC iC tC sC ++ gS G uS iS sS)) (by simp only [List.append_assoc, List.append_nil, List.nil_append]) 0 rfl rfl rfl hl.1 (lv_room (Nat.le_of_ble_eq_true rfl)) ⟨rm_f (by omega), rm_l (by omega)⟩ ⟨Nat.zero_le _, Nat.zero_le _⟩ dX7_readOne_69 (fun H locs hP hD hS => ?_)
        obtain ⟨hb_14, hf⟩ := zb_i hf
        cases hf
        subst hQ
        exact r_zret X hP hD hS hb_14 dX7_readOne_72
      refine lv_icmp_ge (tgt := 64) X.hx X.hb dX7_readOne_55 (by decide) (fun hc_15 => ?_) (fun hc_15 => ?_)
      · replace hf := if_t hf hc_15
        exact hj_9 _ _ _ hf hP hD hS (lv_sub hl [0] rfl)
      · replace hf := if_f hf hc_15
        refine lv_iload_n X.hx X.hb dX7_readOne_58 rfl (lv_at hl 1 rfl) ?_
        refine lv_bipush (v := 8) X.hx X.hb dX7_readOne_59 (by decide) ?_
        refine lv_icmp_le (tgt := 73) X.hx X.hb dX7_readOne_61 (by decide) (fun hc_16 => ?_) (fun hc_16 => ?_)
        · replace hf := if_t hf hc_16
          refine lv_aload_n X.hx X.hb dX7_readOne_73 rfl (lv_at hl 0 rfl) ?_
          refine gf_X7_12 X hP 0 rfl (v := .ref (uS 0)) rfl dX7_readOne_74 ?_
          refine lv_dup X.hx X.hb dX7_readOne_77 rfl ?_
          refine gf_X7_66 X hP 12 rfl (v := .int (iS 0)) rfl dX7_readOne_78 ?_
          refine lv_iconst (v := 1) X.hx X.hb dX7_readOne_81 (by decide) ?_
          refine lv_iadd X.hx X.hb dX7_readOne_82 ?_
          refine pf_X7_66 X hP hD hS 12 rfl rfl rfl (Nat.le_of_ble_eq_true rfl) (wo := (gQ G uQ (uT 0) (uC 0) (uS 0) ++ gT G uT sT iT jT ++ gC G uC iC tC sC ++ gS G uS (va_up iS 0 ((iS 0) + 1)) sS)) rfl dX7_readOne_83 (fun H locs hP hD hS => ?_)
          refine lv_aload_n X.hx X.hb dX7_readOne_86 rfl (lv_at hl 0 rfl) ?_
          refine gf_X7_18 X hP 0 rfl (v := .ref (uT 0)) rfl dX7_readOne_87 ?_
          obtain ⟨⟨iT_17, jT_18⟩, hc_19, hf⟩ := bd_i hf
          refine r_bvv (gQ G uQ (uT 0) (uC 0) (uS 0)) (gC G uC iC tC sC ++ gS G uS (va_up iS 0 ((iS 0) + 1)) sS) (As := []) (rest := []) X sm_X7_54 (c_X8_next l G N uT sT iT jT hc_19) hP hD hS hA (by simp only [List.append_assoc, List.append_nil, List.nil_append]) (wo := (gQ G uQ (uT 0) (uC 0) (uS 0) ++ gT G uT sT iT_17 jT_18 ++ gC G uC iC tC sC ++ gS G uS (va_up iS 0 ((iS 0) + 1)) sS)) (by simp only [List.append_assoc, List.append_nil, List.nil_append]) 0 rfl rfl rfl hl.1 (lv_room (Nat.le_of_ble_eq_true rfl)) ⟨rm_f (by omega), rm_l (by omega)⟩ ⟨Nat.zero_le _, Nat.zero_le _⟩ dX7_readOne_90 (fun H locs hP hD hS => ?_)
          refine lv_iload_n X.hx X.hb dX7_readOne_93 rfl (lv_at hl 2 rfl) ?_
          refine lv_if_eq (tgt := 125) X.hx X.hb dX7_readOne_94 (by decide) (fun hc_20 => ?_) (fun hc_20 => ?_)
          · replace hf := if_t hf hc_20
            refine lv_iload_n X.hx X.hb dX7_readOne_125 rfl (lv_at hl 3 rfl) ?_
            refine lv_bipush (v := 15) X.hx X.hb dX7_readOne_126 (by decide) ?_
            refine lv_icmp_eq (tgt := 137) X.hx X.hb dX7_readOne_128 (by decide) (fun hc_21 => ?_) (fun hc_21 => ?_)
            · replace hf := if_t hf hc_21
              refine lv_aload_n X.hx X.hb dX7_readOne_137 rfl (lv_at hl 0 rfl) ?_
              refine lv_iload_n X.hx X.hb dX7_readOne_138 rfl (lv_at hl 1 rfl) ?_
              refine lv_iconst (v := 1) X.hx X.hb dX7_readOne_139 (by decide) ?_
              refine lv_iadd X.hx X.hb dX7_readOne_140 ?_
              obtain ⟨⟨r_22, iT_23, jT_24, iS_25, sS_26⟩, hc_27, hf⟩ := bd_i hf
              refine r_wvi (As := [.int (p1 + 1)]) (rest := []) X sm_X7_43 (hro uQ uT uC uS sT iT_17 jT_18 iC tC sC (va_up iS 0 ((iS 0) + 1)) sS (p1 + 1) hc_27) hP hD hS hA 0 rfl rfl rfl hl.1 (lv_room (Nat.le_of_ble_eq_true rfl)) ⟨rm_f (by omega), rm_l (by omega)⟩ ⟨Nat.zero_le _, Nat.zero_le _⟩ dX7_readOne_141 (fun H locs hP hD hS => ?_)
              refine lv_if_ne (tgt := 149) X.hx X.hb dX7_readOne_144 (by decide) (fun hc_28 => ?_) (fun hc_28 => ?_)
              · replace hf := if_f hf hc_28
                refine lv_aload_n X.hx X.hb dX7_readOne_149 rfl (lv_at hl 0 rfl) ?_
                refine gf_X7_12 X hP 0 rfl (v := .ref (uS 0)) rfl dX7_readOne_150 ?_
                refine lv_bipush (v := 15) X.hx X.hb dX7_readOne_153 (by decide) ?_
                refine lv_iconst (v := (-1)) X.hx X.hb dX7_readOne_155 (by decide) ?_
                refine lv_iconst (v := (-1)) X.hx X.hb dX7_readOne_156 (by decide) ?_
                obtain ⟨⟨iS_29, sS_30⟩, hc_31, hf⟩ := bd_i hf
                refine r_bvv (gQ G uQ (uT 0) (uC 0) (uS 0) ++ gT G uT sT iT_23 jT_24 ++ gC G uC iC tC sC) ([] : va_W) (As := [.int 15, .int (-1), .int (-1)]) (rest := []) X sm_X7_46 (c_X6_addStep l G N uS iS_25 sS_26 15 (-1) (-1) hc_31) hP hD hS hA (by simp only [List.append_assoc, List.append_nil, List.nil_append]) (wo := (gQ G uQ (uT 0) (uC 0) (uS 0) ++ gT G uT sT iT_23 jT_24 ++ gC G uC iC tC sC ++ gS G uS iS_29 sS_30)) (by simp only [List.append_assoc, List.append_nil, List.nil_append]) 0 rfl rfl rfl hl.1 (lv_room (Nat.le_of_ble_eq_true rfl)) ⟨rm_f (by omega), rm_l (by omega)⟩ ⟨Nat.zero_le _, Nat.zero_le _⟩ dX7_readOne_157 (fun H locs hP hD hS => ?_)
                refine lv_iconst (v := 1) X.hx X.hb dX7_readOne_160 (by decide) ?_
                cases hf
                subst hQ
                exact r_zret X hP hD hS (by decide) dX7_readOne_161
              · replace hf := if_t hf hc_28
                refine lv_iconst (v := 0) X.hx X.hb dX7_readOne_147 (by decide) ?_
                cases hf
                subst hQ
                exact r_zret X hP hD hS (by decide) dX7_readOne_148
            · replace hf := if_f hf hc_21
              refine lv_aload_n X.hx X.hb dX7_readOne_131 rfl (lv_at hl 0 rfl) ?_
              refine lv_iload_n X.hx X.hb dX7_readOne_132 rfl (lv_at hl 3 rfl) ?_
              obtain ⟨⟨r_32, iT_33, jT_34, iS_35, sS_36⟩, hc_37, hf⟩ := bd_i hf
              refine r_wvi (As := [.int (iT 7)]) (rest := []) X sm_X7_72 (c_X7_readPlain l G N uQ uT uC uS sT iT_17 jT_18 iC tC sC (va_up iS 0 ((iS 0) + 1)) sS (iT 7) hc_37) hP hD hS hA 0 rfl rfl rfl hl.1 (lv_room (Nat.le_of_ble_eq_true rfl)) ⟨rm_f (by omega), rm_l (by omega)⟩ ⟨Nat.zero_le _, Nat.zero_le _⟩ dX7_readOne_133 (fun H locs hP hD hS => ?_)
              obtain ⟨hb_38, hf⟩ := zb_i hf
              cases hf
              subst hQ
              exact r_zret X hP hD hS hb_38 dX7_readOne_136
          · replace hf := if_f hf hc_20
            refine lv_aload_n X.hx X.hb dX7_readOne_97 rfl (lv_at hl 0 rfl) ?_
            refine lv_iload_n X.hx X.hb dX7_readOne_98 rfl (lv_at hl 1 rfl) ?_
            refine lv_iconst (v := 1) X.hx X.hb dX7_readOne_99 (by decide) ?_
            refine lv_iadd X.hx X.hb dX7_readOne_100 ?_
            obtain ⟨⟨r_39, iT_40, jT_41, iS_42, sS_43⟩, hc_44, hf⟩ := bd_i hf
            refine r_wvi (As := [.int (p1 + 1)]) (rest := []) X sm_X7_35 (hrc uQ uT uC uS sT iT_17 jT_18 iC tC sC (va_up iS 0 ((iS 0) + 1)) sS (p1 + 1) hc_44) hP hD hS hA 0 rfl rfl rfl hl.1 (lv_room (Nat.le_of_ble_eq_true rfl)) ⟨rm_f (by omega), rm_l (by omega)⟩ ⟨Nat.zero_le _, Nat.zero_le _⟩ dX7_readOne_101 (fun H locs hP hD hS => ?_)
            refine lv_if_eq (tgt := 123) X.hx X.hb dX7_readOne_104 (by decide) (fun hc_45 => ?_) (fun hc_45 => ?_)
            · replace hf := if_t hf hc_45
              refine lv_iconst (v := 0) X.hx X.hb dX7_readOne_123 (by decide) ?_
              cases hf
              subst hQ
              exact r_zret X hP hD hS (by decide) dX7_readOne_124
            · replace hf := if_f hf hc_45
              refine lv_aload_n X.hx X.hb dX7_readOne_107 rfl (lv_at hl 0 rfl) ?_
              refine gf_X7_18 X hP 0 rfl (v := .ref (uT 0)) rfl dX7_readOne_108 ?_
              refine lv_bipush (v := 41) X.hx X.hb dX7_readOne_111 (by decide) ?_
              obtain ⟨⟨r_46, iT_47, jT_48⟩, hc_49, hf⟩ := bd_i hf
              refine r_bvi (gQ G uQ (uT 0) (uC 0) (uS 0)) (gC G uC iC tC sC ++ gS G uS iS_42 sS_43) (As := [.int 41]) (rest := []) X sm_X7_69 (c_X8_passSign l G N uT sT iT_40 jT_41 41 hc_49) hP hD hS hA (by simp only [List.append_assoc, List.append_nil, List.nil_append]) (wo := (gQ G uQ (uT 0) (uC 0) (uS 0) ++ gT G uT sT iT_47 jT_48 ++ gC G uC iC tC sC ++ gS G uS iS_42 sS_43)) (by simp only [List.append_assoc, List.append_nil, List.nil_append]) 0 rfl rfl rfl hl.1 (lv_room (Nat.le_of_ble_eq_true rfl)) ⟨rm_f (by omega), rm_l (by omega)⟩ ⟨Nat.zero_le _, Nat.zero_le _⟩ dX7_readOne_113 (fun H locs hP hD hS => ?_)
              refine lv_if_eq (tgt := 123) X.hx X.hb dX7_readOne_116 (by decide) (fun hc_50 => ?_) (fun hc_50 => ?_)
              · replace hf := if_t hf hc_50
                refine lv_iconst (v := 0) X.hx X.hb dX7_readOne_123 (by decide) ?_
                cases hf
                subst hQ
                exact r_zret X hP hD hS (by decide) dX7_readOne_124
              · replace hf := if_f hf hc_50
                refine lv_iconst (v := 1) X.hx X.hb dX7_readOne_119 (by decide) ?_
                refine lv_goto (tgt := 124) X.hx X.hb dX7_readOne_120 (by decide) ?_
                cases hf
                subst hQ
                exact r_zret X hP hD hS (by decide) dX7_readOne_124
        · replace hf := if_f hf hc_16
          exact hj_9 _ _ _ hf hP hD hS (lv_sub hl [0] rfl)
    refine lv_if_ne (tgt := 46) X.hx X.hb dX7_readOne_27 (by decide) (fun hc_51 => ?_) (fun hc_51 => ?_)
    · replace hf := if_f hf hc_51
      exact hj_6 _ _ _ hf hP hD hS (lv_sub hl [2, 3, 1, 0] rfl)
    · replace hf := if_t hf hc_51
      refine lv_iload_n X.hx X.hb dX7_readOne_30 rfl (lv_at hl 0 rfl) ?_
      obtain ⟨r_52, hc_53, hf⟩ := bd_i hf
      refine r_cs0 (As := [.int (iT 7)]) (rest := []) X sm_X7_60 (c_X7_beginsOne l G N (iT 7) hc_53) hP hD hS hA rfl hl.1 (lv_room (Nat.le_of_ble_eq_true rfl)) ⟨rm_f (by omega), rm_l (by omega)⟩ ⟨Nat.zero_le _, Nat.zero_le _⟩ dX7_readOne_31 (fun H locs hP hD hS => ?_)
      refine lv_if_ne (tgt := 46) X.hx X.hb dX7_readOne_34 (by decide) (fun hc_54 => ?_) (fun hc_54 => ?_)
      · replace hf := if_f hf hc_54
        exact hj_6 _ _ _ hf hP hD hS (lv_sub hl [2, 3, 1, 0] rfl)
      · replace hf := if_t hf hc_54
        refine lv_aload_n X.hx X.hb dX7_readOne_37 rfl (lv_at hl 2 rfl) ?_
        refine gf_X7_18 X hP 0 rfl (v := .ref (uT 0)) rfl dX7_readOne_38 ?_
        refine lv_iconst (v := 1) X.hx X.hb dX7_readOne_41 (by decide) ?_
        obtain ⟨⟨r_55, iT_56⟩, hc_57, hf⟩ := bd_i hf
        refine r_bvi (gQ G uQ (uT 0) (uC 0) (uS 0)) (gC G uC iC tC sC ++ gS G uS iS sS) (As := [.int 1]) (rest := []) X sm_X7_63 (c_X8_refuse l G N uT sT iT jT 1 hc_57) hP hD hS hA (by simp only [List.append_assoc, List.append_nil, List.nil_append]) (wo := (gQ G uQ (uT 0) (uC 0) (uS 0) ++ gT G uT sT iT_56 jT ++ gC G uC iC tC sC ++ gS G uS iS sS)) (by simp only [List.append_assoc, List.append_nil, List.nil_append]) 0 rfl rfl rfl hl.1 (lv_room (Nat.le_of_ble_eq_true rfl)) ⟨rm_f (by omega), rm_l (by omega)⟩ ⟨Nat.zero_le _, Nat.zero_le _⟩ dX7_readOne_42 (fun H locs hP hD hS => ?_)
        obtain ⟨hb_58, hf⟩ := zb_i hf
        cases hf
        subst hQ
        exact r_zret X hP hD hS hb_58 dX7_readOne_45
  refine lv_icmp_ne (tgt := 16) X.hx X.hb dX7_readOne_9 (by decide) (fun hc_59 => ?_) (fun hc_59 => ?_)
  · replace hf := if_f hf hc_59
    refine lv_iconst (v := 0) X.hx X.hb dX7_readOne_16 (by decide) ?_
    exact hj_2 _ _ _ _ hf hP hD hS (lv_sub hl [0, 1] rfl)
  · replace hf := if_t hf hc_59
    refine lv_iconst (v := 1) X.hx X.hb dX7_readOne_12 (by decide) ?_
    refine lv_goto (tgt := 17) X.hx X.hb dX7_readOne_13 (by decide) ?_
    exact hj_2 _ _ _ _ hf hP hD hS (lv_sub hl [0, 1] rfl)
set_option maxHeartbeats 4000000 in
set_option maxRecDepth 100000 in
theorem c_X7_readCond_o (l : Launch) (G : GT) (N : Nat) (uQ uT uC uS : Nat → Nat) (L : Nat) (hL : 3 ≤ L) (ro rc : RF) (hro : RFok l G L yX7_readOne cX7_readOne 4 ro) (hrc : RFok l G L yX7_readCond cX7_readCond 5 rc) (sT : Nat → Nat → Int32) (iT : Nat → Int32) (jT : Nat → Int64) (iC : Nat → Int32) (tC : Nat → Nat → Int64) (sC : Nat → Nat → Int32) (iS : Nat → Int32) (sS : Nat → Nat → Int32) (p1 : Int32) {r : Int32} {iT' : Nat → Int32} {jT' : Nat → Int64} {iS' : Nat → Int32} {sS' : Nat → Nat → Int32} (hf : f_X7_readCond_o N ro rc sT iT jT iC tC sC iS sS p1 = some (r, iT', jT', iS', sS')) : CI l G yX7_readCond cX7_readCond 5 .boolean (L + 1) [.ref (uQ 0), .int p1] (gQ G uQ (uT 0) (uC 0) (uS 0) ++ gT G uT sT iT jT ++ gC G uC iC tC sC ++ gS G uS iS sS) r (gQ G uQ (uT 0) (uC 0) (uS 0) ++ gT G uT sT iT' jT' ++ gC G uC iC tC sC ++ gS G uS iS' sS') := by
  refine CI.of (by decide) (Nat.le_of_ble_eq_true rfl) ?_
  intro p e s m args below meth c A X hA hP hD hS ls hl
  have hl : lv_has ls 5 [(0, .ref (uQ 0)), (1, .int p1)] := hl
  generalize hQ : MQ below (QI G A r (gQ G uQ (uT 0) (uC 0) (uS 0) ++ gT G uT sT iT' jT' ++ gC G uC iC tC sC ++ gS G uS iS' sS')) args s 0 0 A = QQ
  unfold f_X7_readCond_o at hf
  refine lv_iconst (v := 0) X.hx X.hb dX7_readCond_0 (by decide) ?_
  refine lv_istore_n (lv' := [(2, .int 0), (0, .ref (uQ 0)), (1, .int p1)]) X.hx X.hb dX7_readCond_1 rfl hl (by decide) rfl (fun ls hl => ?_)
  refine lv_iconst (v := 0) X.hx X.hb dX7_readCond_2 (by decide) ?_
  refine lv_istore_n (lv' := [(3, .int 0), (2, .int 0), (0, .ref (uQ 0)), (1, .int p1)]) X.hx X.hb dX7_readCond_3 rfl hl (by decide) rfl (fun ls hl => ?_)
  refine lv_iconst (v := 0) X.hx X.hb dX7_readCond_4 (by decide) ?_
  refine lv_istore (lv' := [(4, .int 0), (3, .int 0), (2, .int 0), (0, .ref (uQ 0)), (1, .int p1)]) X.hx X.hb dX7_readCond_5 hl (by decide) rfl (fun ls hl => ?_)
  have hlo_1 : ∀ (k : Nat) (iT_2 : Nat → Int32) (jT_3 : Nat → Int64) (iS_4 : Nat → Int32) (sS_5 : Nat → Nat → Int32) (v2_6 : Int32) (v3_7 : Int32) (v4_8 : Int32) (H : Heap) (locs : List Loc) (ls : Array Slot), f_X7_readCond_o_7 N ro rc sT iC tC sC p1 k iT_2 jT_3 iS_4 sS_5 v2_6 v3_7 v4_8 = some (r, iT', jT', iS', sS') → va_P G.1 vwCl (gQ G uQ (uT 0) (uC 0) (uS 0) ++ gT G uT sT iT_2 jT_3 ++ gC G uC iC tC sC ++ gS G uS iS_4 sS_5) H → va_D A (gQ G uQ (uT 0) (uC 0) (uS 0) ++ gT G uT sT iT_2 jT_3 ++ gC G uC iC tC sC ++ gS G uS iS_4 sS_5) → va_S A s.heap H locs → lv_has ls 5 [(0, .ref (uQ 0)), (1, .int p1), (2, .int v2_6), (3, .int v3_7), (4, .int v4_8)] → W p l e (RM (L + 1)) s m args below meth c H locs 0 0 QQ (F0 m 7 ls []) := by
    intro k
    induction k with
    | zero => intro iT_2 jT_3 iS_4 sS_5 v2_6 v3_7 v4_8 H locs ls hf; exact absurd hf (by intro q; cases q)
    | succ k ih =>
      intro iT_2 jT_3 iS_4 sS_5 v2_6 v3_7 v4_8 H locs ls hf hP hD hS hl
      unfold f_X7_readCond_o_7 at hf
      refine lv_iload X.hx X.hb dX7_readCond_7 (lv_at hl 4 rfl) ?_
      refine lv_bipush (v := 20) X.hx X.hb dX7_readCond_9 (by decide) ?_
      refine lv_icmp_gt (tgt := 121) X.hx X.hb dX7_readCond_11 (by decide) (fun hc_9 => ?_) (fun hc_9 => ?_)
      · replace hf := if_t hf hc_9
        refine lv_iconst (v := 0) X.hx X.hb dX7_readCond_121 (by decide) ?_
        cases hf
        subst hQ
        exact r_zret X hP hD hS (by decide) dX7_readCond_122
      · replace hf := if_f hf hc_9
        refine lv_aload_n X.hx X.hb dX7_readCond_14 rfl (lv_at hl 0 rfl) ?_
        refine lv_iload_n X.hx X.hb dX7_readCond_15 rfl (lv_at hl 1 rfl) ?_
        obtain ⟨⟨r_10, iT_11, jT_12, iS_13, sS_14⟩, hc_15, hf⟩ := bd_i hf
        refine r_wvi (As := [.int p1]) (rest := []) X sm_X7_43 (hro uQ uT uC uS sT iT_2 jT_3 iC tC sC iS_4 sS_5 p1 hc_15) hP hD hS hA 0 rfl rfl rfl hl.1 (lv_room (Nat.le_of_ble_eq_true rfl)) ⟨rm_f (by omega), rm_l (by omega)⟩ ⟨Nat.zero_le _, Nat.zero_le _⟩ dX7_readCond_16 (fun H locs hP hD hS => ?_)
        refine lv_if_ne (tgt := 24) X.hx X.hb dX7_readCond_19 (by decide) (fun hc_16 => ?_) (fun hc_16 => ?_)
        · replace hf := if_f hf hc_16
          refine lv_iload_n X.hx X.hb dX7_readCond_24 rfl (lv_at hl 2 rfl) ?_
          obtain ⟨K_17, eK_19, hf⟩ := jn_i hf
          have hj_18 : ∀ (iS_20 : Nat → Int32) (sS_21 : Nat → Nat → Int32) (H : Heap) (locs : List Loc) (ls : Array Slot), K_17 (iS_20, sS_21) = some (r, iT', jT', iS', sS') → va_P G.1 vwCl (gQ G uQ (uT 0) (uC 0) (uS 0) ++ gT G uT sT iT_11 jT_12 ++ gC G uC iC tC sC ++ gS G uS iS_20 sS_21) H → va_D A (gQ G uQ (uT 0) (uC 0) (uS 0) ++ gT G uT sT iT_11 jT_12 ++ gC G uC iC tC sC ++ gS G uS iS_20 sS_21) → va_S A s.heap H locs → lv_has ls 5 [(0, .ref (uQ 0)), (1, .int p1), (3, .int v3_7), (4, .int v4_8)] → W p l e (RM (L + 1)) s m args below meth c H locs 0 0 QQ (F0 m 39 ls []) := by
            intro iS_20 sS_21 H locs ls hf hP hD hS hl
            rw [eK_19] at hf
            try dsimp only at hf
            refine lv_aload_n X.hx X.hb dX7_readCond_39 rfl (lv_at hl 0 rfl) ?_
            refine gf_X7_18 X hP 0 rfl (v := .ref (uT 0)) rfl dX7_readCond_40 ?_
            refine gf_X7_50 X hP 1 rfl (v := .int (iT_11 7)) rfl dX7_readCond_43 ?_
            refine lv_bipush (v := 14) X.hx X.hb dX7_readCond_46 (by decide) ?_
            obtain ⟨K_22, eK_24, hf⟩ := jn_i hf
            have hj_23 : ∀ (y_25 : Int32) (H : Heap) (locs : List Loc) (ls : Array Slot), K_22 y_25 = some (r, iT', jT', iS', sS') → va_P G.1 vwCl (gQ G uQ (uT 0) (uC 0) (uS 0) ++ gT G uT sT iT_11 jT_12 ++ gC G uC iC tC sC ++ gS G uS iS_20 sS_21) H → va_D A (gQ G uQ (uT 0) (uC 0) (uS 0) ++ gT G uT sT iT_11 jT_12 ++ gC G uC iC tC sC ++ gS G uS iS_20 sS_21) → va_S A s.heap H locs → lv_has ls 5 [(0, .ref (uQ 0)), (1, .int p1), (3, .int v3_7), (4, .int v4_8)] → W p l e (RM (L + 1)) s m args below meth c H locs 0 0 QQ (F0 m 56 ls [.int y_25]) := by
              intro y_25 H locs ls hf hP hD hS hl
              rw [eK_24] at hf
              try dsimp only at hf
              refine lv_istore_n (lv' := [(2, .int y_25), (0, .ref (uQ 0)), (1, .int p1), (3, .int v3_7), (4, .int v4_8)]) X.hx X.hb dX7_readCond_56 rfl hl (by decide) rfl (fun ls hl => ?_)
              refine lv_iload_n X.hx X.hb dX7_readCond_57 rfl (lv_at hl 0 rfl) ?_
              obtain ⟨K_26, eK_28, hf⟩ := jn_i hf
              have hj_27 : ∀ (iS_29 : Nat → Int32) (sS_30 : Nat → Nat → Int32) (H : Heap) (locs : List Loc) (ls : Array Slot), K_26 (iS_29, sS_30) = some (r, iT', jT', iS', sS') → va_P G.1 vwCl (gQ G uQ (uT 0) (uC 0) (uS 0) ++ gT G uT sT iT_11 jT_12 ++ gC G uC iC tC sC ++ gS G uS iS_29 sS_30) H → va_D A (gQ G uQ (uT 0) (uC 0) (uS 0) ++ gT G uT sT iT_11 jT_12 ++ gC G uC iC tC sC ++ gS G uS iS_29 sS_30) → va_S A s.heap H locs → lv_has ls 5 [(0, .ref (uQ 0)), (1, .int p1), (2, .int y_25), (3, .int v3_7), (4, .int v4_8)] → W p l e (RM (L + 1)) s m args below meth c H locs 0 0 QQ (F0 m 76 ls []) := by
                intro iS_29 sS_30 H locs ls hf hP hD hS hl
                rw [eK_28] at hf
                try dsimp only at hf
                refine lv_iload_n X.hx X.hb dX7_readCond_76 rfl (lv_at hl 2 rfl) ?_
                obtain ⟨K_31, eK_33, hf⟩ := jn_i hf
                have hj_32 : ∀ (H : Heap) (locs : List Loc) (ls : Array Slot), K_31 () = some (r, iT', jT', iS', sS') → va_P G.1 vwCl (gQ G uQ (uT 0) (uC 0) (uS 0) ++ gT G uT sT iT_11 jT_12 ++ gC G uC iC tC sC ++ gS G uS iS_29 sS_30) H → va_D A (gQ G uQ (uT 0) (uC 0) (uS 0) ++ gT G uT sT iT_11 jT_12 ++ gC G uC iC tC sC ++ gS G uS iS_29 sS_30) → va_S A s.heap H locs → lv_has ls 5 [(0, .ref (uQ 0)), (1, .int p1), (2, .int y_25), (3, .int v3_7), (4, .int v4_8)] → W p l e (RM (L + 1)) s m args below meth c H locs 0 0 QQ (F0 m 94 ls []) := by
                  intro  H locs ls hf hP hD hS hl
                  rw [eK_33] at hf
                  try dsimp only at hf
                  refine lv_iload_n X.hx X.hb dX7_readCond_94 rfl (lv_at hl 3 rfl) ?_
                  obtain ⟨K_34, eK_36, hf⟩ := jn_i hf
                  have hj_35 : ∀ (y_37 : Int32) (H : Heap) (locs : List Loc) (ls : Array Slot), K_34 y_37 = some (r, iT', jT', iS', sS') → va_P G.1 vwCl (gQ G uQ (uT 0) (uC 0) (uS 0) ++ gT G uT sT iT_11 jT_12 ++ gC G uC iC tC sC ++ gS G uS iS_29 sS_30) H → va_D A (gQ G uQ (uT 0) (uC 0) (uS 0) ++ gT G uT sT iT_11 jT_12 ++ gC G uC iC tC sC ++ gS G uS iS_29 sS_30) → va_S A s.heap H locs → lv_has ls 5 [(0, .ref (uQ 0)), (1, .int p1), (2, .int y_25), (4, .int v4_8)] → W p l e (RM (L + 1)) s m args below meth c H locs 0 0 QQ (F0 m 107 ls [.int y_37]) := by
                    intro y_37 H locs ls hf hP hD hS hl
                    rw [eK_36] at hf
                    try dsimp only at hf
                    refine lv_istore_n (lv' := [(3, .int y_37), (0, .ref (uQ 0)), (1, .int p1), (2, .int y_25), (4, .int v4_8)]) X.hx X.hb dX7_readCond_107 rfl hl (by decide) rfl (fun ls hl => ?_)
                    refine lv_aload_n X.hx X.hb dX7_readCond_108 rfl (lv_at hl 1 rfl) ?_
                    refine gf_X7_18 X hP 0 rfl (v := .ref (uT 0)) rfl dX7_readCond_109 ?_
                    obtain ⟨⟨iT_38, jT_39⟩, hc_40, hf⟩ := bd_i hf
                    refine r_bvv (gQ G uQ (uT 0) (uC 0) (uS 0)) (gC G uC iC tC sC ++ gS G uS iS_29 sS_30) (As := []) (rest := []) X sm_X7_54 (c_X8_next l G N uT sT iT_11 jT_12 hc_40) hP hD hS hA (by simp only [List.append_assoc, List.append_nil, List.nil_append]) (wo := (gQ G uQ (uT 0) (uC 0) (uS 0) ++ gT G uT sT iT_38 jT_39 ++ gC G uC iC tC sC ++ gS G uS iS_29 sS_30)) (by simp only [List.append_assoc, List.append_nil, List.nil_append]) 0 rfl rfl rfl hl.1 (lv_room (Nat.le_of_ble_eq_true rfl)) ⟨rm_f (by omega), rm_l (by omega)⟩ ⟨Nat.zero_le _, Nat.zero_le _⟩ dX7_readCond_112 (fun H locs hP hD hS => ?_)
                    refine lv_iinc (v := (v4_8 + 1)) (lv' := [(4, .int (v4_8 + 1)), (3, .int y_37), (0, .ref (uQ 0)), (1, .int p1), (2, .int y_25)]) X.hx X.hb dX7_readCond_115 hl (k := 4) rfl rfl (by decide) rfl (fun ls hl => ?_)
                    refine lv_goto (tgt := 7) X.hx X.hb dX7_readCond_118 (by decide) ?_
                    exact ih _ _ _ _ _ _ _ _ _ _ hf hP hD hS (lv_sub hl [2, 3, 4, 1, 0] rfl)
                  obtain ⟨K_41, eK_43, hf⟩ := jn_i hf
                  have hj_42 : ∀ (H : Heap) (locs : List Loc) (ls : Array Slot), K_41 () = some (r, iT', jT', iS', sS') → va_P G.1 vwCl (gQ G uQ (uT 0) (uC 0) (uS 0) ++ gT G uT sT iT_11 jT_12 ++ gC G uC iC tC sC ++ gS G uS iS_29 sS_30) H → va_D A (gQ G uQ (uT 0) (uC 0) (uS 0) ++ gT G uT sT iT_11 jT_12 ++ gC G uC iC tC sC ++ gS G uS iS_29 sS_30) → va_S A s.heap H locs → lv_has ls 5 [(0, .ref (uQ 0)), (1, .int p1), (2, .int y_25), (4, .int v4_8)] → W p l e (RM (L + 1)) s m args below meth c H locs 0 0 QQ (F0 m 102 ls []) := by
                    intro  H locs ls hf hP hD hS hl
                    rw [eK_43] at hf
                    try dsimp only at hf
                    refine lv_iconst (v := 1) X.hx X.hb dX7_readCond_102 (by decide) ?_
                    refine lv_goto (tgt := 107) X.hx X.hb dX7_readCond_103 (by decide) ?_
                    exact hj_35 _ _ _ _ hf hP hD hS (lv_sub hl [0, 1, 2, 3] rfl)
                  refine lv_if_ne (tgt := 102) X.hx X.hb dX7_readCond_95 (by decide) (fun hc_44 => ?_) (fun hc_44 => ?_)
                  · replace hf := if_f hf hc_44
                    exact hj_42 _ _ _ hf hP hD hS (lv_sub hl [0, 1, 2, 4] rfl)
                  · replace hf := if_t hf hc_44
                    refine lv_iload_n X.hx X.hb dX7_readCond_98 rfl (lv_at hl 2 rfl) ?_
                    refine lv_if_ne (tgt := 106) X.hx X.hb dX7_readCond_99 (by decide) (fun hc_45 => ?_) (fun hc_45 => ?_)
                    · replace hf := if_f hf hc_45
                      refine lv_iconst (v := 0) X.hx X.hb dX7_readCond_106 (by decide) ?_
                      exact hj_35 _ _ _ _ hf hP hD hS (lv_sub hl [0, 1, 2, 4] rfl)
                    · replace hf := if_t hf hc_45
                      exact hj_42 _ _ _ hf hP hD hS (lv_sub hl [0, 1, 2, 4] rfl)
                refine lv_if_ne (tgt := 94) X.hx X.hb dX7_readCond_77 (by decide) (fun hc_46 => ?_) (fun hc_46 => ?_)
                · replace hf := if_f hf hc_46
                  exact hj_32 _ _ _ hf hP hD hS (lv_sub hl [0, 1, 2, 3, 4] rfl)
                · replace hf := if_t hf hc_46
                  refine lv_aload_n X.hx X.hb dX7_readCond_80 rfl (lv_at hl 0 rfl) ?_
                  refine gf_X7_18 X hP 0 rfl (v := .ref (uT 0)) rfl dX7_readCond_81 ?_
                  refine gf_X7_50 X hP 1 rfl (v := .int (iT_11 7)) rfl dX7_readCond_84 ?_
                  refine lv_bipush (v := 13) X.hx X.hb dX7_readCond_87 (by decide) ?_
                  refine lv_icmp_eq (tgt := 94) X.hx X.hb dX7_readCond_89 (by decide) (fun hc_47 => ?_) (fun hc_47 => ?_)
                  · replace hf := if_t hf hc_47
                    exact hj_32 _ _ _ hf hP hD hS (lv_sub hl [0, 1, 2, 3, 4] rfl)
                  · replace hf := if_f hf hc_47
                    refine lv_iconst (v := 1) X.hx X.hb dX7_readCond_92 (by decide) ?_
                    cases hf
                    subst hQ
                    exact r_zret X hP hD hS (by decide) dX7_readCond_93
              refine lv_if_ne (tgt := 76) X.hx X.hb dX7_readCond_58 (by decide) (fun hc_48 => ?_) (fun hc_48 => ?_)
              · replace hf := if_f hf hc_48
                exact hj_27 _ _ _ _ _ hf hP hD hS (lv_sub hl [1, 2, 0, 3, 4] rfl)
              · replace hf := if_t hf hc_48
                refine lv_iload_n X.hx X.hb dX7_readCond_61 rfl (lv_at hl 3 rfl) ?_
                refine lv_if_eq (tgt := 76) X.hx X.hb dX7_readCond_62 (by decide) (fun hc_49 => ?_) (fun hc_49 => ?_)
                · replace hf := if_t hf hc_49
                  exact hj_27 _ _ _ _ _ hf hP hD hS (lv_sub hl [1, 2, 0, 3, 4] rfl)
                · replace hf := if_f hf hc_49
                  refine lv_aload_n X.hx X.hb dX7_readCond_65 rfl (lv_at hl 1 rfl) ?_
                  refine gf_X7_12 X hP 0 rfl (v := .ref (uS 0)) rfl dX7_readCond_66 ?_
                  refine lv_bipush (v := 13) X.hx X.hb dX7_readCond_69 (by decide) ?_
                  refine lv_iconst (v := (-1)) X.hx X.hb dX7_readCond_71 (by decide) ?_
                  refine lv_iconst (v := (-1)) X.hx X.hb dX7_readCond_72 (by decide) ?_
                  obtain ⟨⟨iS_50, sS_51⟩, hc_52, hf⟩ := bd_i hf
                  refine r_bvv (gQ G uQ (uT 0) (uC 0) (uS 0) ++ gT G uT sT iT_11 jT_12 ++ gC G uC iC tC sC) ([] : va_W) (As := [.int 13, .int (-1), .int (-1)]) (rest := []) X sm_X7_46 (c_X6_addStep l G N uS iS_20 sS_21 13 (-1) (-1) hc_52) hP hD hS hA (by simp only [List.append_assoc, List.append_nil, List.nil_append]) (wo := (gQ G uQ (uT 0) (uC 0) (uS 0) ++ gT G uT sT iT_11 jT_12 ++ gC G uC iC tC sC ++ gS G uS iS_50 sS_51)) (by simp only [List.append_assoc, List.append_nil, List.nil_append]) 0 rfl rfl rfl hl.1 (lv_room (Nat.le_of_ble_eq_true rfl)) ⟨rm_f (by omega), rm_l (by omega)⟩ ⟨Nat.zero_le _, Nat.zero_le _⟩ dX7_readCond_73 (fun H locs hP hD hS => ?_)
                  exact hj_27 _ _ _ _ _ hf hP hD hS (lv_sub hl [1, 2, 0, 3, 4] rfl)
            refine lv_icmp_ne (tgt := 55) X.hx X.hb dX7_readCond_48 (by decide) (fun hc_53 => ?_) (fun hc_53 => ?_)
            · replace hf := if_f hf hc_53
              refine lv_iconst (v := 0) X.hx X.hb dX7_readCond_55 (by decide) ?_
              exact hj_23 _ _ _ _ hf hP hD hS (lv_sub hl [0, 1, 2, 3] rfl)
            · replace hf := if_t hf hc_53
              refine lv_iconst (v := 1) X.hx X.hb dX7_readCond_51 (by decide) ?_
              refine lv_goto (tgt := 56) X.hx X.hb dX7_readCond_52 (by decide) ?_
              exact hj_23 _ _ _ _ hf hP hD hS (lv_sub hl [0, 1, 2, 3] rfl)
          refine lv_if_eq (tgt := 39) X.hx X.hb dX7_readCond_25 (by decide) (fun hc_54 => ?_) (fun hc_54 => ?_)
          · replace hf := if_t hf hc_54
            exact hj_18 _ _ _ _ _ hf hP hD hS (lv_sub hl [0, 1, 3, 4] rfl)
          · replace hf := if_f hf hc_54
            refine lv_aload_n X.hx X.hb dX7_readCond_28 rfl (lv_at hl 0 rfl) ?_
            refine gf_X7_12 X hP 0 rfl (v := .ref (uS 0)) rfl dX7_readCond_29 ?_
            refine lv_bipush (v := 14) X.hx X.hb dX7_readCond_32 (by decide) ?_
            refine lv_iconst (v := (-1)) X.hx X.hb dX7_readCond_34 (by decide) ?_
            refine lv_iconst (v := (-1)) X.hx X.hb dX7_readCond_35 (by decide) ?_
            obtain ⟨⟨iS_55, sS_56⟩, hc_57, hf⟩ := bd_i hf
            refine r_bvv (gQ G uQ (uT 0) (uC 0) (uS 0) ++ gT G uT sT iT_11 jT_12 ++ gC G uC iC tC sC) ([] : va_W) (As := [.int 14, .int (-1), .int (-1)]) (rest := []) X sm_X7_46 (c_X6_addStep l G N uS iS_13 sS_14 14 (-1) (-1) hc_57) hP hD hS hA (by simp only [List.append_assoc, List.append_nil, List.nil_append]) (wo := (gQ G uQ (uT 0) (uC 0) (uS 0) ++ gT G uT sT iT_11 jT_12 ++ gC G uC iC tC sC ++ gS G uS iS_55 sS_56)) (by simp only [List.append_assoc, List.append_nil, List.nil_append]) 0 rfl rfl rfl hl.1 (lv_room (Nat.le_of_ble_eq_true rfl)) ⟨rm_f (by omega), rm_l (by omega)⟩ ⟨Nat.zero_le _, Nat.zero_le _⟩ dX7_readCond_36 (fun H locs hP hD hS => ?_)
            exact hj_18 _ _ _ _ _ hf hP hD hS (lv_sub hl [0, 1, 3, 4] rfl)
        · replace hf := if_t hf hc_16
          refine lv_iconst (v := 0) X.hx X.hb dX7_readCond_22 (by decide) ?_
          cases hf
          subst hQ
          exact r_zret X hP hD hS (by decide) dX7_readCond_23
  exact hlo_1 N _ _ _ _ _ _ _ _ _ _ hf hP hD hS (lv_sub hl [3, 4, 2, 1, 0] rfl)
/-- readOne and readCond, so many within one another -/
def f_X7_rec (N : Nat) : Nat → RF × RF
  | 0 => (fun _ _ _ _ _ _ _ _ _ => none, fun _ _ _ _ _ _ _ _ _ => none)
  | d + 1 => (f_X7_readOne_o N (f_X7_rec N d).1 (f_X7_rec N d).2, f_X7_readCond_o N (f_X7_rec N d).1 (f_X7_rec N d).2)
theorem c_X7_rec (l : Launch) (G : GT) (N : Nat) : ∀ d : Nat, RFok l G (5 + d) yX7_readOne cX7_readOne 4 (f_X7_rec N d).1 ∧ RFok l G (5 + d) yX7_readCond cX7_readCond 5 (f_X7_rec N d).2 := by
  intro d
  induction d with
  | zero => exact ⟨fun _ _ _ _ _ _ _ _ _ _ _ _ _ _ _ _ _ _ h => (by cases h), fun _ _ _ _ _ _ _ _ _ _ _ _ _ _ _ _ _ _ h => (by cases h)⟩
  | succ d ih =>
    refine ⟨?_, ?_⟩
    · intro uQ uT uC uS sT iT jT iC tC sC iS sS p1 r iT' jT' iS' sS' hf
      exact c_X7_readOne_o l G N uQ uT uC uS (5 + d) (by omega) _ _ ih.1 ih.2 sT iT jT iC tC sC iS sS p1 hf
    · intro uQ uT uC uS sT iT jT iC tC sC iS sS p1 r iT' jT' iS' sS' hf
      exact c_X7_readCond_o l G N uQ uT uC uS (5 + d) (by omega) _ _ ih.1 ih.2 sT iT jT iC tC sC iS sS p1 hf
def f_X7_readOne (N : Nat) (sT : Nat → Nat → Int32) (iT : Nat → Int32) (jT : Nat → Int64) (iC : Nat → Int32) (tC : Nat → Nat → Int64) (sC : Nat → Nat → Int32) (iS : Nat → Int32) (sS : Nat → Nat → Int32) (p1 : Int32) : Option (Int32 × (Nat → Int32) × (Nat → Int64) × (Nat → Int32) × (Nat → Nat → Int32)) := (f_X7_rec N 22).1 sT iT jT iC tC sC iS sS p1
theorem c_X7_readOne (l : Launch) (G : GT) (N : Nat) (uQ uT uC uS : Nat → Nat) (sT : Nat → Nat → Int32) (iT : Nat → Int32) (jT : Nat → Int64) (iC : Nat → Int32) (tC : Nat → Nat → Int64) (sC : Nat → Nat → Int32) (iS : Nat → Int32) (sS : Nat → Nat → Int32) (p1 : Int32) {r : Int32} {iT' : Nat → Int32} {jT' : Nat → Int64} {iS' : Nat → Int32} {sS' : Nat → Nat → Int32} (hf : f_X7_readOne N sT iT jT iC tC sC iS sS p1 = some (r, iT', jT', iS', sS')) : CI l G yX7_readOne cX7_readOne 4 .boolean 27 [.ref (uQ 0), .int p1] (gQ G uQ (uT 0) (uC 0) (uS 0) ++ gT G uT sT iT jT ++ gC G uC iC tC sC ++ gS G uS iS sS) r (gQ G uQ (uT 0) (uC 0) (uS 0) ++ gT G uT sT iT' jT' ++ gC G uC iC tC sC ++ gS G uS iS' sS') := (c_X7_rec l G N 22).1 uQ uT uC uS sT iT jT iC tC sC iS sS p1 hf
def f_X7_readCond (N : Nat) (sT : Nat → Nat → Int32) (iT : Nat → Int32) (jT : Nat → Int64) (iC : Nat → Int32) (tC : Nat → Nat → Int64) (sC : Nat → Nat → Int32) (iS : Nat → Int32) (sS : Nat → Nat → Int32) (p1 : Int32) : Option (Int32 × (Nat → Int32) × (Nat → Int64) × (Nat → Int32) × (Nat → Nat → Int32)) := (f_X7_rec N 22).2 sT iT jT iC tC sC iS sS p1
theorem c_X7_readCond (l : Launch) (G : GT) (N : Nat) (uQ uT uC uS : Nat → Nat) (sT : Nat → Nat → Int32) (iT : Nat → Int32) (jT : Nat → Int64) (iC : Nat → Int32) (tC : Nat → Nat → Int64) (sC : Nat → Nat → Int32) (iS : Nat → Int32) (sS : Nat → Nat → Int32) (p1 : Int32) {r : Int32} {iT' : Nat → Int32} {jT' : Nat → Int64} {iS' : Nat → Int32} {sS' : Nat → Nat → Int32} (hf : f_X7_readCond N sT iT jT iC tC sC iS sS p1 = some (r, iT', jT', iS', sS')) : CI l G yX7_readCond cX7_readCond 5 .boolean 27 [.ref (uQ 0), .int p1] (gQ G uQ (uT 0) (uC 0) (uS 0) ++ gT G uT sT iT jT ++ gC G uC iC tC sC ++ gS G uS iS sS) r (gQ G uQ (uT 0) (uC 0) (uS 0) ++ gT G uT sT iT' jT' ++ gC G uC iC tC sC ++ gS G uS iS' sS') := (c_X7_rec l G N 22).2 uQ uT uC uS sT iT jT iC tC sC iS sS p1 hf

