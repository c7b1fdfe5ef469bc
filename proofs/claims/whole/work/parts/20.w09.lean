def f_X10_recluse (N : Nat) (qX : Nat → Option Nat) (iX : Nat → Int32) (iE : Nat → Int32) (sE : Nat → Nat → Int32) (iM : Nat → Int32) (sM : Nat → Nat → Int32) (iC : Nat → Int32) (tC : Nat → Nat → Int64) (sC : Nat → Nat → Int32) : Option (Int32) :=
  bd (f_X9_loneliest N iE sE iM sM iC tC sC) (fun r_1 => some r_1)
set_option maxHeartbeats 4000000 in
set_option maxRecDepth 100000 in
theorem c_X10_recluse (l : Launch) (G : GT) (N : Nat) (uX uE uM uC : Nat → Nat) (xX0 xX2 xX4 xX8 xX9 xX10 xX11 xX12 xX13 : Nat) (qX : Nat → Option Nat) (iX : Nat → Int32) (iE : Nat → Int32) (sE : Nat → Nat → Int32) (iM : Nat → Int32) (sM : Nat → Nat → Int32) (iC : Nat → Int32) (tC : Nat → Nat → Int64) (sC : Nat → Nat → Int32) {r : Int32} (hf : f_X10_recluse N qX iX iE sE iM sM iC tC sC = some r) : CI l G yX10_recluse cX10_recluse 1 .int 3 [.ref (uX 0)] (gX G uX xX0 (uC 0) xX2 (uM 0) xX4 (uE 0) xX8 xX9 xX10 xX11 xX12 xX13 qX iX ++ gE G uE (uC 0) (uM 0) iE sE ++ gM G uM (uC 0) iM sM ++ gC G uC iC tC sC) r (gX G uX xX0 (uC 0) xX2 (uM 0) xX4 (uE 0) xX8 xX9 xX10 xX11 xX12 xX13 qX iX ++ gE G uE (uC 0) (uM 0) iE sE ++ gM G uM (uC 0) iM sM ++ gC G uC iC tC sC) := by
  refine CI.of (by decide) (Nat.le_of_ble_eq_true rfl) ?_
  intro p e s m args below meth c A X hA hP hD hS ls hl
  have hl : lv_has ls 1 [(0, .ref (uX 0))] := hl
  generalize hQ : MQ below (QI G A r (gX G uX xX0 (uC 0) xX2 (uM 0) xX4 (uE 0) xX8 xX9 xX10 xX11 xX12 xX13 qX iX ++ gE G uE (uC 0) (uM 0) iE sE ++ gM G uM (uC 0) iM sM ++ gC G uC iC tC sC)) args s 0 0 A = QQ
  unfold f_X10_recluse at hf
  refine lv_aload_n X.hx X.hb dX10_recluse_0 rfl (lv_at hl 0 rfl) ?_
  refine gf_X10_57 X hP 0 rfl (v := .ref (uE 0)) rfl dX10_recluse_1 ?_
  obtain ⟨r_1, hc_2, hf⟩ := bd_i hf
  refine r_bvi (gX G uX xX0 (uC 0) xX2 (uM 0) xX4 (uE 0) xX8 xX9 xX10 xX11 xX12 xX13 qX iX) ([] : va_W) (As := []) (rest := []) X sm_X10_284 (c_X9_loneliest l G N uE uM uC iE sE iM sM iC tC sC hc_2) hP hD hS hA (by simp only [List.append_assoc, List.append_nil, List.nil_append]) (wo := (gX G uX xX0 (uC 0) xX2 (uM 0) xX4 (uE 0) xX8 xX9 xX10 xX11 xX12 xX13 qX iX ++ gE G uE (uC 0) (uM 0) iE sE ++ gM G uM (uC 0) iM sM ++ gC G uC iC tC sC)) (by simp only [List.append_assoc, List.append_nil, List.nil_append]) 0 rfl rfl rfl hl.1 (lv_room (Nat.le_of_ble_eq_true rfl)) ⟨Nat.le_of_ble_eq_true rfl, Nat.le_of_ble_eq_true rfl⟩ ⟨Nat.zero_le _, Nat.zero_le _⟩ dX10_recluse_4 (fun H locs hP hD hS => ?_)
  cases hf
  subst hQ
  exact r_iret X hP hD hS dX10_recluse_7

def f_X10_who (N : Nat) (qX : Nat → Option Nat) (iX : Nat → Int32) (iE : Nat → Int32) (sE : Nat → Nat → Int32) (iM : Nat → Int32) (sM : Nat → Nat → Int32) (iC : Nat → Int32) (tC : Nat → Nat → Int64) (sC : Nat → Nat → Int32) (sT : Nat → Nat → Int32) (iT : Nat → Int32) (jT : Nat → Int64) : Option (Int32 × (Nat → Int32) × (Nat → Int32)) :=
  bd (f_X9_maskedBy N iE sE iM sM iC tC sC sT iT jT) (fun (r_1, iE_2) => some (r_1, iE_2, (va_up iT 1 0)))
set_option maxHeartbeats 4000000 in
set_option maxRecDepth 100000 in
theorem c_X10_who (l : Launch) (G : GT) (N : Nat) (uX uE uM uC uT : Nat → Nat) (xX2 xX4 xX8 xX9 xX10 xX11 xX12 xX13 : Nat) (qX : Nat → Option Nat) (iX : Nat → Int32) (iE : Nat → Int32) (sE : Nat → Nat → Int32) (iM : Nat → Int32) (sM : Nat → Nat → Int32) (iC : Nat → Int32) (tC : Nat → Nat → Int64) (sC : Nat → Nat → Int32) (sT : Nat → Nat → Int32) (iT : Nat → Int32) (jT : Nat → Int64) {r : Int32} {iE' : Nat → Int32} {iT' : Nat → Int32} (hf : f_X10_who N qX iX iE sE iM sM iC tC sC sT iT jT = some (r, iE', iT')) : CI l G yX10_who cX10_who 2 .int 5 [.ref (uX 0)] (gX G uX (uT 0) (uC 0) xX2 (uM 0) xX4 (uE 0) xX8 xX9 xX10 xX11 xX12 xX13 qX iX ++ gE G uE (uC 0) (uM 0) iE sE ++ gM G uM (uC 0) iM sM ++ gC G uC iC tC sC ++ gT G uT sT iT jT) r (gX G uX (uT 0) (uC 0) xX2 (uM 0) xX4 (uE 0) xX8 xX9 xX10 xX11 xX12 xX13 qX iX ++ gE G uE (uC 0) (uM 0) iE' sE ++ gM G uM (uC 0) iM sM ++ gC G uC iC tC sC ++ gT G uT sT iT' jT) := by
  refine CI.of (by decide) (Nat.le_of_ble_eq_true rfl) ?_
  intro p e s m args below meth c A X hA hP hD hS ls hl
  have hl : lv_has ls 2 [(0, .ref (uX 0))] := hl
  generalize hQ : MQ below (QI G A r (gX G uX (uT 0) (uC 0) xX2 (uM 0) xX4 (uE 0) xX8 xX9 xX10 xX11 xX12 xX13 qX iX ++ gE G uE (uC 0) (uM 0) iE' sE ++ gM G uM (uC 0) iM sM ++ gC G uC iC tC sC ++ gT G uT sT iT' jT)) args s 0 0 A = QQ
  unfold f_X10_who at hf
  refine lv_aload_n X.hx X.hb dX10_who_0 rfl (lv_at hl 0 rfl) ?_
  refine gf_X10_57 X hP 0 rfl (v := .ref (uE 0)) rfl dX10_who_1 ?_
  refine lv_aload_n X.hx X.hb dX10_who_4 rfl (lv_at hl 0 rfl) ?_
  refine gf_X10_10 X hP 0 rfl (v := .ref (uT 0)) rfl dX10_who_5 ?_
  obtain ⟨⟨r_1, iE_2⟩, hc_3, hf⟩ := bd_i hf
  refine r_bvi (gX G uX (uT 0) (uC 0) xX2 (uM 0) xX4 (uE 0) xX8 xX9 xX10 xX11 xX12 xX13 qX iX) ([] : va_W) (As := [.ref (uT 0)]) (rest := []) X sm_X10_250 (c_X9_maskedBy l G N uE uM uC uT iE sE iM sM iC tC sC sT iT jT hc_3) hP hD hS hA (by simp only [List.append_assoc, List.append_nil, List.nil_append]) (wo := (gX G uX (uT 0) (uC 0) xX2 (uM 0) xX4 (uE 0) xX8 xX9 xX10 xX11 xX12 xX13 qX iX ++ gE G uE (uC 0) (uM 0) iE_2 sE ++ gM G uM (uC 0) iM sM ++ gC G uC iC tC sC ++ gT G uT sT iT jT)) (by simp only [List.append_assoc, List.append_nil, List.nil_append]) 0 rfl rfl rfl hl.1 (lv_room (Nat.le_of_ble_eq_true rfl)) ⟨Nat.le_of_ble_eq_true rfl, Nat.le_of_ble_eq_true rfl⟩ ⟨Nat.zero_le _, Nat.zero_le _⟩ dX10_who_8 (fun H locs hP hD hS => ?_)
  refine lv_istore_n (lv' := [(1, .int r_1), (0, .ref (uX 0))]) X.hx X.hb dX10_who_11 rfl hl (by decide) rfl (fun ls hl => ?_)
  refine lv_aload_n X.hx X.hb dX10_who_12 rfl (lv_at hl 1 rfl) ?_
  refine gf_X10_10 X hP 0 rfl (v := .ref (uT 0)) rfl dX10_who_13 ?_
  refine lv_iconst (v := 0) X.hx X.hb dX10_who_16 (by decide) ?_
  refine pf_X10_112 X hP hD hS 20 rfl rfl rfl (Nat.le_of_ble_eq_true rfl) (wo := (gX G uX (uT 0) (uC 0) xX2 (uM 0) xX4 (uE 0) xX8 xX9 xX10 xX11 xX12 xX13 qX iX ++ gE G uE (uC 0) (uM 0) iE_2 sE ++ gM G uM (uC 0) iM sM ++ gC G uC iC tC sC ++ gT G uT sT (va_up iT 1 0) jT)) rfl dX10_who_17 (fun H locs hP hD hS => ?_)
  refine lv_iload_n X.hx X.hb dX10_who_20 rfl (lv_at hl 0 rfl) ?_
  cases hf
  subst hQ
  exact r_iret X hP hD hS dX10_who_21

def f_X10_face (N : Nat) (qX : Nat → Option Nat) (iX : Nat → Int32) (sP : Nat → Nat → Int32) (iP : Nat → Int32) (iM : Nat → Int32) (sM : Nat → Nat → Int32) (iC : Nat → Int32) (tC : Nat → Nat → Int64) (sC : Nat → Nat → Int32) (p1 : Int32) : Option (Int32 × (Nat → Nat → Int32) × (Nat → Int32)) :=
  bd (f_X1_isPerson N iC tC sC p1) (fun r_1 => (if r_1 = 0 then some ((-1), sP, iP) else bd (f_X5_draw N sP iP iM sM iC tC sC p1) (fun (sP_4, iP_5) => some ((iP_5 1), sP_4, iP_5))))
set_option maxHeartbeats 4000000 in
set_option maxRecDepth 100000 in
theorem c_X10_face (l : Launch) (G : GT) (N : Nat) (uX uP uM uC : Nat → Nat) (xX0 xX2 xX4 xX7 xX9 xX10 xX11 xX12 xX13 : Nat) (qX : Nat → Option Nat) (iX : Nat → Int32) (sP : Nat → Nat → Int32) (iP : Nat → Int32) (iM : Nat → Int32) (sM : Nat → Nat → Int32) (iC : Nat → Int32) (tC : Nat → Nat → Int64) (sC : Nat → Nat → Int32) (p1 : Int32) {r : Int32} {sP' : Nat → Nat → Int32} {iP' : Nat → Int32} (hf : f_X10_face N qX iX sP iP iM sM iC tC sC p1 = some (r, sP', iP')) : CI l G yX10_face cX10_face 2 .int 7 [.ref (uX 0), .int p1] (gX G uX xX0 (uC 0) xX2 (uM 0) xX4 xX7 (uP 0) xX9 xX10 xX11 xX12 xX13 qX iX ++ gP G uP sP iP ++ gM G uM (uC 0) iM sM ++ gC G uC iC tC sC) r (gX G uX xX0 (uC 0) xX2 (uM 0) xX4 xX7 (uP 0) xX9 xX10 xX11 xX12 xX13 qX iX ++ gP G uP sP' iP' ++ gM G uM (uC 0) iM sM ++ gC G uC iC tC sC) := by
  refine CI.of (by decide) (Nat.le_of_ble_eq_true rfl) ?_
  intro p e s m args below meth c A X hA hP hD hS ls hl
  have hl : lv_has ls 2 [(0, .ref (uX 0)), (1, .int p1)] := hl
  generalize hQ : MQ below (QI G A r (gX G uX xX0 (uC 0) xX2 (uM 0) xX4 xX7 (uP 0) xX9 xX10 xX11 xX12 xX13 qX iX ++ gP G uP sP' iP' ++ gM G uM (uC 0) iM sM ++ gC G uC iC tC sC)) args s 0 0 A = QQ
  unfold f_X10_face at hf
  refine lv_aload_n X.hx X.hb dX10_face_0 rfl (lv_at hl 0 rfl) ?_
  refine gf_X10_19 X hP 0 rfl (v := .ref (uC 0)) rfl dX10_face_1 ?_
  refine lv_iload_n X.hx X.hb dX10_face_4 rfl (lv_at hl 1 rfl) ?_
  obtain ⟨r_1, hc_2, hf⟩ := bd_i hf
  refine r_bvi (gX G uX xX0 (uC 0) xX2 (uM 0) xX4 xX7 (uP 0) xX9 xX10 xX11 xX12 xX13 qX iX ++ gP G uP sP iP ++ gM G uM (uC 0) iM sM) ([] : va_W) (As := [.int p1]) (rest := []) X sm_X10_134 (c_X1_isPerson l G N uC iC tC sC p1 hc_2) hP hD hS hA (by simp only [List.append_assoc, List.append_nil, List.nil_append]) (wo := (gX G uX xX0 (uC 0) xX2 (uM 0) xX4 xX7 (uP 0) xX9 xX10 xX11 xX12 xX13 qX iX ++ gP G uP sP iP ++ gM G uM (uC 0) iM sM ++ gC G uC iC tC sC)) (by simp only [List.append_assoc, List.append_nil, List.nil_append]) 0 rfl rfl rfl hl.1 (lv_room (Nat.le_of_ble_eq_true rfl)) ⟨Nat.le_of_ble_eq_true rfl, Nat.le_of_ble_eq_true rfl⟩ ⟨Nat.zero_le _, Nat.zero_le _⟩ dX10_face_5 (fun H locs hP hD hS => ?_)
  refine lv_if_ne (tgt := 13) X.hx X.hb dX10_face_8 (by decide) (fun hc_3 => ?_) (fun hc_3 => ?_)
  · replace hf := if_f hf hc_3
    refine lv_aload_n X.hx X.hb dX10_face_13 rfl (lv_at hl 0 rfl) ?_
    refine gf_X10_64 X hP 0 rfl (v := .ref (uP 0)) rfl dX10_face_14 ?_
    refine lv_iload_n X.hx X.hb dX10_face_17 rfl (lv_at hl 1 rfl) ?_
    refine lv_aload_n X.hx X.hb dX10_face_18 rfl (lv_at hl 0 rfl) ?_
    refine gf_X10_19 X hP 0 rfl (v := .ref (uC 0)) rfl dX10_face_19 ?_
    refine lv_aload_n X.hx X.hb dX10_face_22 rfl (lv_at hl 0 rfl) ?_
    refine gf_X10_37 X hP 0 rfl (v := .ref (uM 0)) rfl dX10_face_23 ?_
    obtain ⟨⟨sP_4, iP_5⟩, hc_6, hf⟩ := bd_i hf
    refine r_bvv (gX G uX xX0 (uC 0) xX2 (uM 0) xX4 xX7 (uP 0) xX9 xX10 xX11 xX12 xX13 qX iX) ([] : va_W) (As := [.int p1, .ref (uC 0), .ref (uM 0)]) (rest := []) X sm_X10_287 (c_X5_draw l G N uP uM uC sP iP iM sM iC tC sC p1 hc_6) hP hD hS hA (by simp only [List.append_assoc, List.append_nil, List.nil_append]) (wo := (gX G uX xX0 (uC 0) xX2 (uM 0) xX4 xX7 (uP 0) xX9 xX10 xX11 xX12 xX13 qX iX ++ gP G uP sP_4 iP_5 ++ gM G uM (uC 0) iM sM ++ gC G uC iC tC sC)) (by simp only [List.append_assoc, List.append_nil, List.nil_append]) 0 rfl rfl rfl hl.1 (lv_room (Nat.le_of_ble_eq_true rfl)) ⟨Nat.le_of_ble_eq_true rfl, Nat.le_of_ble_eq_true rfl⟩ ⟨Nat.zero_le _, Nat.zero_le _⟩ dX10_face_26 (fun H locs hP hD hS => ?_)
    refine lv_aload_n X.hx X.hb dX10_face_29 rfl (lv_at hl 0 rfl) ?_
    refine gf_X10_64 X hP 0 rfl (v := .ref (uP 0)) rfl dX10_face_30 ?_
    refine gf_X10_291 X hP 2 rfl (v := .int (iP_5 1)) rfl dX10_face_33 ?_
    cases hf
    subst hQ
    exact r_iret X hP hD hS dX10_face_36
  · replace hf := if_t hf hc_3
    refine lv_iconst (v := (-1)) X.hx X.hb dX10_face_11 (by decide) ?_
    cases hf
    subst hQ
    exact r_iret X hP hD hS dX10_face_12

def f_X10_byteAt (N : Nat) (qX : Nat → Option Nat) (iX : Nat → Int32) (sP : Nat → Nat → Int32) (iP : Nat → Int32) (p1 : Int32) : Option (Int32) :=
  bd (f_X5_signAt N sP iP p1) (fun r_1 => some r_1)
set_option maxHeartbeats 4000000 in
set_option maxRecDepth 100000 in
theorem c_X10_byteAt (l : Launch) (G : GT) (N : Nat) (uX uP : Nat → Nat) (xX0 xX1 xX2 xX3 xX4 xX7 xX9 xX10 xX11 xX12 xX13 : Nat) (qX : Nat → Option Nat) (iX : Nat → Int32) (sP : Nat → Nat → Int32) (iP : Nat → Int32) (p1 : Int32) {r : Int32} (hf : f_X10_byteAt N qX iX sP iP p1 = some r) : CI l G yX10_byteAt cX10_byteAt 2 .int 2 [.ref (uX 0), .int p1] (gX G uX xX0 xX1 xX2 xX3 xX4 xX7 (uP 0) xX9 xX10 xX11 xX12 xX13 qX iX ++ gP G uP sP iP) r (gX G uX xX0 xX1 xX2 xX3 xX4 xX7 (uP 0) xX9 xX10 xX11 xX12 xX13 qX iX ++ gP G uP sP iP) := by
  refine CI.of (by decide) (Nat.le_of_ble_eq_true rfl) ?_
  intro p e s m args below meth c A X hA hP hD hS ls hl
  have hl : lv_has ls 2 [(0, .ref (uX 0)), (1, .int p1)] := hl
  generalize hQ : MQ below (QI G A r (gX G uX xX0 xX1 xX2 xX3 xX4 xX7 (uP 0) xX9 xX10 xX11 xX12 xX13 qX iX ++ gP G uP sP iP)) args s 0 0 A = QQ
  unfold f_X10_byteAt at hf
  refine lv_aload_n X.hx X.hb dX10_byteAt_0 rfl (lv_at hl 0 rfl) ?_
  refine gf_X10_64 X hP 0 rfl (v := .ref (uP 0)) rfl dX10_byteAt_1 ?_
  refine lv_iload_n X.hx X.hb dX10_byteAt_4 rfl (lv_at hl 1 rfl) ?_
  obtain ⟨r_1, hc_2, hf⟩ := bd_i hf
  refine r_bvi (gX G uX xX0 xX1 xX2 xX3 xX4 xX7 (uP 0) xX9 xX10 xX11 xX12 xX13 qX iX) ([] : va_W) (As := [.int p1]) (rest := []) X sm_X10_292 (c_X5_signAt l G N uP sP iP p1 hc_2) hP hD hS hA (by simp only [List.append_assoc, List.append_nil, List.nil_append]) (wo := (gX G uX xX0 xX1 xX2 xX3 xX4 xX7 (uP 0) xX9 xX10 xX11 xX12 xX13 qX iX ++ gP G uP sP iP)) (by simp only [List.append_assoc, List.append_nil, List.nil_append]) 0 rfl rfl rfl hl.1 (lv_room (Nat.le_of_ble_eq_true rfl)) ⟨Nat.le_of_ble_eq_true rfl, Nat.le_of_ble_eq_true rfl⟩ ⟨Nat.zero_le _, Nat.zero_le _⟩ dX10_byteAt_5 (fun H locs hP hD hS => ?_)
  cases hf
  subst hQ
  exact r_iret X hP hD hS dX10_byteAt_8

def f_X10_odds_30 (N : Nat) (qX : Nat → Option Nat) (iX : Nat → Int32) (iM : Nat → Int32) (sM : Nat → Nat → Int32) (iC : Nat → Int32) (tC : Nat → Nat → Int64) (sC : Nat → Nat → Int32) (v1 : Int32) (v2 : Int32) (v3 : Int32) : Nat → (Nat → Int32) → (Nat → Nat → Int32) → (Int32) → (Int32) → Option (Int32 × (Nat → Int32) × (Nat → Nat → Int32))
  | 0, _, _, _, _ => none
  | k + 1, iM2, sM2, v4, v5 => (if v2 ≤ v5 then some (v4, iM2, sM2) else bd (f_X4_copyFrom N iM2 sM2 iM sM) (fun (iM2_27, sM2_28) => bd (f_X4_passDrawnDays N iM2_27 sM2_28 iC tC sC 10 (v3 + v5)) (fun (r_30, iM2_31, sM2_32) => ck v1 7 (ck v1 7 (jn (fun (z : (Int32)) => match z with | x4_39 => f_X10_odds_30 N qX iX iM sM iC tC sC v1 v2 v3 k iM2_31 sM2_32 x4_39 (v5 + 1)) (fun K_36 => (if ((sM2_32 6) (ix v1)) ≤ ((sM 6) (ix v1)) then K_36 v4 else K_36 (v4 + 1))))))))
def f_X10_odds (N : Nat) (qX : Nat → Option Nat) (iX : Nat → Int32) (iM : Nat → Int32) (sM : Nat → Nat → Int32) (iM2 : Nat → Int32) (sM2 : Nat → Nat → Int32) (iC : Nat → Int32) (tC : Nat → Nat → Int64) (sC : Nat → Nat → Int32) (p1 : Int32) (p2 : Int32) (p3 : Int32) : Option (Int32 × (Nat → Int32) × (Nat → Nat → Int32)) :=
  bd (f_X1_isPerson N iC tC sC p1) (fun r_1 => (if r_1 = 0 then some ((-1), iM2, sM2) else (if p2 < 1 then some ((-1), iM2, sM2) else (if p2 ≤ 30 then f_X10_odds_30 N qX iX iM sM iC tC sC p1 p2 p3 N iM2 sM2 0 0 else some ((-1), iM2, sM2)))))
set_option maxHeartbeats 4000000 in
set_option maxRecDepth 100000 in
theorem c_X10_odds (l : Launch) (G : GT) (N : Nat) (uX uM uM2 uC : Nat → Nat) (xX0 xX2 xX7 xX8 xX9 xX10 xX11 xX12 xX13 : Nat) (qX : Nat → Option Nat) (iX : Nat → Int32) (iM : Nat → Int32) (sM : Nat → Nat → Int32) (iM2 : Nat → Int32) (sM2 : Nat → Nat → Int32) (iC : Nat → Int32) (tC : Nat → Nat → Int64) (sC : Nat → Nat → Int32) (p1 : Int32) (p2 : Int32) (p3 : Int32) {r : Int32} {iM2' : Nat → Int32} {sM2' : Nat → Nat → Int32} (hf : f_X10_odds N qX iX iM sM iM2 sM2 iC tC sC p1 p2 p3 = some (r, iM2', sM2')) : CI l G yX10_odds cX10_odds 6 .int 7 [.ref (uX 0), .int p1, .int p2, .int p3] (gX G uX xX0 (uC 0) xX2 (uM 0) (uM2 0) xX7 xX8 xX9 xX10 xX11 xX12 xX13 qX iX ++ gM G uM (uC 0) iM sM ++ gM G uM2 (uC 0) iM2 sM2 ++ gC G uC iC tC sC) r (gX G uX xX0 (uC 0) xX2 (uM 0) (uM2 0) xX7 xX8 xX9 xX10 xX11 xX12 xX13 qX iX ++ gM G uM (uC 0) iM sM ++ gM G uM2 (uC 0) iM2' sM2' ++ gC G uC iC tC sC) := by
  refine CI.of (by decide) (Nat.le_of_ble_eq_true rfl) ?_
  intro p e s m args below meth c A X hA hP hD hS ls hl
  have hl : lv_has ls 6 [(0, .ref (uX 0)), (1, .int p1), (2, .int p2), (3, .int p3)] := hl
  generalize hQ : MQ below (QI G A r (gX G uX xX0 (uC 0) xX2 (uM 0) (uM2 0) xX7 xX8 xX9 xX10 xX11 xX12 xX13 qX iX ++ gM G uM (uC 0) iM sM ++ gM G uM2 (uC 0) iM2' sM2' ++ gC G uC iC tC sC)) args s 0 0 A = QQ
  unfold f_X10_odds at hf
  refine lv_aload_n X.hx X.hb dX10_odds_0 rfl (lv_at hl 0 rfl) ?_
  refine gf_X10_19 X hP 0 rfl (v := .ref (uC 0)) rfl dX10_odds_1 ?_
  refine lv_iload_n X.hx X.hb dX10_odds_4 rfl (lv_at hl 1 rfl) ?_
  obtain ⟨r_1, hc_2, hf⟩ := bd_i hf
  refine r_bvi (gX G uX xX0 (uC 0) xX2 (uM 0) (uM2 0) xX7 xX8 xX9 xX10 xX11 xX12 xX13 qX iX ++ gM G uM (uC 0) iM sM ++ gM G uM2 (uC 0) iM2 sM2) ([] : va_W) (As := [.int p1]) (rest := []) X sm_X10_134 (c_X1_isPerson l G N uC iC tC sC p1 hc_2) hP hD hS hA (by simp only [List.append_assoc, List.append_nil, List.nil_append]) (wo := (gX G uX xX0 (uC 0) xX2 (uM 0) (uM2 0) xX7 xX8 xX9 xX10 xX11 xX12 xX13 qX iX ++ gM G uM (uC 0) iM sM ++ gM G uM2 (uC 0) iM2 sM2 ++ gC G uC iC tC sC)) (by simp only [List.append_assoc, List.append_nil, List.nil_append]) 0 rfl rfl rfl hl.1 (lv_room (Nat.le_of_ble_eq_true rfl)) ⟨Nat.le_of_ble_eq_true rfl, Nat.le_of_ble_eq_true rfl⟩ ⟨Nat.zero_le _, Nat.zero_le _⟩ dX10_odds_5 (fun H locs hP hD hS => ?_)
  refine lv_if_eq (tgt := 22) X.hx X.hb dX10_odds_8 (by decide) (fun hc_3 => ?_) (fun hc_3 => ?_)
  · replace hf := if_t hf hc_3
    refine lv_iconst (v := (-1)) X.hx X.hb dX10_odds_22 (by decide) ?_
    cases hf
    subst hQ
    exact r_iret X hP hD hS dX10_odds_23
  · replace hf := if_f hf hc_3
    refine lv_iload_n X.hx X.hb dX10_odds_11 rfl (lv_at hl 2 rfl) ?_
    refine lv_iconst (v := 1) X.hx X.hb dX10_odds_12 (by decide) ?_
    refine lv_icmp_lt (tgt := 22) X.hx X.hb dX10_odds_13 (by decide) (fun hc_4 => ?_) (fun hc_4 => ?_)
    · replace hf := if_t hf hc_4
      refine lv_iconst (v := (-1)) X.hx X.hb dX10_odds_22 (by decide) ?_
      cases hf
      subst hQ
      exact r_iret X hP hD hS dX10_odds_23
    · replace hf := if_f hf hc_4
      refine lv_iload_n X.hx X.hb dX10_odds_16 rfl (lv_at hl 2 rfl) ?_
      refine lv_bipush (v := 30) X.hx X.hb dX10_odds_17 (by decide) ?_
      refine lv_icmp_le (tgt := 24) X.hx X.hb dX10_odds_19 (by decide) (fun hc_5 => ?_) (fun hc_5 => ?_)
      · replace hf := if_t hf hc_5
        refine lv_iconst (v := 0) X.hx X.hb dX10_odds_24 (by decide) ?_
        refine lv_istore (lv' := [(4, .int 0), (0, .ref (uX 0)), (1, .int p1), (2, .int p2), (3, .int p3)]) X.hx X.hb dX10_odds_25 hl (by decide) rfl (fun ls hl => ?_)
        refine lv_iconst (v := 0) X.hx X.hb dX10_odds_27 (by decide) ?_
        refine lv_istore (lv' := [(5, .int 0), (4, .int 0), (0, .ref (uX 0)), (1, .int p1), (2, .int p2), (3, .int p3)]) X.hx X.hb dX10_odds_28 hl (by decide) rfl (fun ls hl => ?_)
        have hlo_6 : ∀ (k : Nat) (iM2_7 : Nat → Int32) (sM2_8 : Nat → Nat → Int32) (v4_9 : Int32) (v5_10 : Int32) (H : Heap) (locs : List Loc) (ls : Array Slot), f_X10_odds_30 N qX iX iM sM iC tC sC p1 p2 p3 k iM2_7 sM2_8 v4_9 v5_10 = some (r, iM2', sM2') → va_P G.1 vwCl (gX G uX xX0 (uC 0) xX2 (uM 0) (uM2 0) xX7 xX8 xX9 xX10 xX11 xX12 xX13 qX iX ++ gM G uM (uC 0) iM sM ++ gM G uM2 (uC 0) iM2_7 sM2_8 ++ gC G uC iC tC sC) H → va_D A (gX G uX xX0 (uC 0) xX2 (uM 0) (uM2 0) xX7 xX8 xX9 xX10 xX11 xX12 xX13 qX iX ++ gM G uM (uC 0) iM sM ++ gM G uM2 (uC 0) iM2_7 sM2_8 ++ gC G uC iC tC sC) → va_S A s.heap H locs → lv_has ls 6 [(0, .ref (uX 0)), (1, .int p1), (2, .int p2), (3, .int p3), (4, .int v4_9), (5, .int v5_10)] → W p l e (RM 7) s m args below meth c H locs 0 0 QQ (F0 m 30 ls []) := by
          intro k
          induction k with
          | zero => intro iM2_7 sM2_8 v4_9 v5_10 H locs ls hf; exact absurd hf (by intro q; cases q)
          | succ k ih =>
            intro iM2_7 sM2_8 v4_9 v5_10 H locs ls hf hP hD hS hl
            unfold f_X10_odds_30 at hf
            refine lv_iload X.hx X.hb dX10_odds_30 (lv_at hl 5 rfl) ?_
            refine lv_iload_n X.hx X.hb dX10_odds_32 rfl (lv_at hl 2 rfl) ?_
            refine lv_icmp_ge (tgt := 91) X.hx X.hb dX10_odds_33 (by decide) (fun hc_11 => ?_) (fun hc_11 => ?_)
            · replace hf := if_t hf hc_11
              refine lv_iload X.hx X.hb dX10_odds_91 (lv_at hl 4 rfl) ?_
              cases hf
              subst hQ
              exact r_iret X hP hD hS dX10_odds_93
            · replace hf := if_f hf hc_11
              refine lv_aload_n X.hx X.hb dX10_odds_36 rfl (lv_at hl 0 rfl) ?_
              refine gf_X10_41 X hP 0 rfl (v := .ref (uM2 0)) rfl dX10_odds_37 ?_
              refine lv_aload_n X.hx X.hb dX10_odds_40 rfl (lv_at hl 0 rfl) ?_
              refine gf_X10_37 X hP 0 rfl (v := .ref (uM 0)) rfl dX10_odds_41 ?_
              obtain ⟨⟨iM2_12, sM2_13⟩, hc_14, hf⟩ := bd_i hf
              refine r_pvv [gX G uX xX0 (uC 0) xX2 (uM 0) (uM2 0) xX7 xX8 xX9 xX10 xX11 xX12 xX13 qX iX, gM G uM (uC 0) iM sM, gM G uM2 (uC 0) iM2_7 sM2_8, gC G uC iC tC sC] [gX G uX xX0 (uC 0) xX2 (uM 0) (uM2 0) xX7 xX8 xX9 xX10 xX11 xX12 xX13 qX iX, gM G uM (uC 0) iM sM, gM G uM2 (uC 0) iM2_12 sM2_13, gC G uC iC tC sC] [gM G uM2 (uC 0) iM2_7 sM2_8, gM G uM (uC 0) iM sM] [gM G uM2 (uC 0) iM2_12 sM2_13, gM G uM (uC 0) iM sM] [gX G uX xX0 (uC 0) xX2 (uM 0) (uM2 0) xX7 xX8 xX9 xX10 xX11 xX12 xX13 qX iX, gC G uC iC tC sC] 4 [2, 1] [0, 3] (As := [.ref (uM 0)]) (rest := []) X sm_X10_244 (c_X4_copyFrom l G N uM2 uM (uC 0) (uC 0) iM2_7 sM2_8 iM sM hc_14) hP hD hS hA rfl rfl (by decide) (by simp only [List.flatten_cons, List.flatten_nil, List.append_assoc, List.append_nil]) rfl (by simp only [List.flatten_cons, List.flatten_nil, List.append_assoc, List.append_nil]) rfl (by simp only [List.flatten_cons, List.flatten_nil, List.append_assoc, List.append_nil]) rfl rfl (wo := (gX G uX xX0 (uC 0) xX2 (uM 0) (uM2 0) xX7 xX8 xX9 xX10 xX11 xX12 xX13 qX iX ++ gM G uM (uC 0) iM sM ++ gM G uM2 (uC 0) iM2_12 sM2_13 ++ gC G uC iC tC sC)) (by simp only [List.flatten_cons, List.flatten_nil, List.append_assoc, List.append_nil]) 0 rfl rfl rfl hl.1 (lv_room (Nat.le_of_ble_eq_true rfl)) ⟨Nat.le_of_ble_eq_true rfl, Nat.le_of_ble_eq_true rfl⟩ ⟨Nat.zero_le _, Nat.zero_le _⟩ dX10_odds_44 (fun H locs hP hD hS => ?_)
              refine lv_aload_n X.hx X.hb dX10_odds_47 rfl (lv_at hl 0 rfl) ?_
              refine gf_X10_41 X hP 0 rfl (v := .ref (uM2 0)) rfl dX10_odds_48 ?_
              refine lv_bipush (v := 10) X.hx X.hb dX10_odds_51 (by decide) ?_
              refine lv_iload_n X.hx X.hb dX10_odds_53 rfl (lv_at hl 3 rfl) ?_
              refine lv_iload X.hx X.hb dX10_odds_54 (lv_at hl 5 rfl) ?_
              refine lv_iadd X.hx X.hb dX10_odds_56 ?_
              obtain ⟨⟨r_15, iM2_16, sM2_17⟩, hc_18, hf⟩ := bd_i hf
              refine r_bvi (gX G uX xX0 (uC 0) xX2 (uM 0) (uM2 0) xX7 xX8 xX9 xX10 xX11 xX12 xX13 qX iX ++ gM G uM (uC 0) iM sM) ([] : va_W) (As := [.int 10, .int (p3 + v5_10)]) (rest := []) X sm_X10_295 (c_X4_passDrawnDays l G N uM2 uC iM2_12 sM2_13 iC tC sC 10 (p3 + v5_10) hc_18) hP hD hS hA (by simp only [List.append_assoc, List.append_nil, List.nil_append]) (wo := (gX G uX xX0 (uC 0) xX2 (uM 0) (uM2 0) xX7 xX8 xX9 xX10 xX11 xX12 xX13 qX iX ++ gM G uM (uC 0) iM sM ++ gM G uM2 (uC 0) iM2_16 sM2_17 ++ gC G uC iC tC sC)) (by simp only [List.append_assoc, List.append_nil, List.nil_append]) 0 rfl rfl rfl hl.1 (lv_room (Nat.le_of_ble_eq_true rfl)) ⟨Nat.le_of_ble_eq_true rfl, Nat.le_of_ble_eq_true rfl⟩ ⟨Nat.zero_le _, Nat.zero_le _⟩ dX10_odds_57 (fun H locs hP hD hS => ?_)
              refine lv_pop X.hx X.hb dX10_odds_60 rfl ?_
              refine lv_aload_n X.hx X.hb dX10_odds_61 rfl (lv_at hl 0 rfl) ?_
              refine gf_X10_41 X hP 0 rfl (v := .ref (uM2 0)) rfl dX10_odds_62 ?_
              refine gf_X10_141 X hP 9 rfl (v := .ref (uM2 7)) rfl dX10_odds_65 ?_
              refine lv_iload_n X.hx X.hb dX10_odds_68 rfl (lv_at hl 1 rfl) ?_
              obtain ⟨hi_19, hf⟩ := ck_i hf
              refine r_iald X hP 10 (f := (sM2_17 6)) rfl hi_19 dX10_odds_69 ?_
              refine lv_aload_n X.hx X.hb dX10_odds_70 rfl (lv_at hl 0 rfl) ?_
              refine gf_X10_37 X hP 0 rfl (v := .ref (uM 0)) rfl dX10_odds_71 ?_
              refine gf_X10_141 X hP 2 rfl (v := .ref (uM 7)) rfl dX10_odds_74 ?_
              refine lv_iload_n X.hx X.hb dX10_odds_77 rfl (lv_at hl 1 rfl) ?_
              obtain ⟨hi_20, hf⟩ := ck_i hf
              refine r_iald X hP 3 (f := (sM 6)) rfl hi_20 dX10_odds_78 ?_
              obtain ⟨K_21, eK_23, hf⟩ := jn_i hf
              have hj_22 : ∀ (x4_24 : Int32) (H : Heap) (locs : List Loc) (ls : Array Slot), K_21 x4_24 = some (r, iM2', sM2') → va_P G.1 vwCl (gX G uX xX0 (uC 0) xX2 (uM 0) (uM2 0) xX7 xX8 xX9 xX10 xX11 xX12 xX13 qX iX ++ gM G uM (uC 0) iM sM ++ gM G uM2 (uC 0) iM2_16 sM2_17 ++ gC G uC iC tC sC) H → va_D A (gX G uX xX0 (uC 0) xX2 (uM 0) (uM2 0) xX7 xX8 xX9 xX10 xX11 xX12 xX13 qX iX ++ gM G uM (uC 0) iM sM ++ gM G uM2 (uC 0) iM2_16 sM2_17 ++ gC G uC iC tC sC) → va_S A s.heap H locs → lv_has ls 6 [(0, .ref (uX 0)), (1, .int p1), (2, .int p2), (3, .int p3), (4, .int x4_24), (5, .int v5_10)] → W p l e (RM 7) s m args below meth c H locs 0 0 QQ (F0 m 85 ls []) := by
                intro x4_24 H locs ls hf hP hD hS hl
                rw [eK_23] at hf
                try dsimp only at hf
                refine lv_iinc (v := (v5_10 + 1)) (lv' := [(5, .int (v5_10 + 1)), (0, .ref (uX 0)), (1, .int p1), (2, .int p2), (3, .int p3), (4, .int x4_24)]) X.hx X.hb dX10_odds_85 hl (k := 5) rfl rfl (by decide) rfl (fun ls hl => ?_)
                refine lv_goto (tgt := 30) X.hx X.hb dX10_odds_88 (by decide) ?_
                exact ih _ _ _ _ _ _ _ hf hP hD hS (lv_sub hl [1, 2, 3, 4, 5, 0] rfl)
              refine lv_icmp_le (tgt := 85) X.hx X.hb dX10_odds_79 (by decide) (fun hc_25 => ?_) (fun hc_25 => ?_)
              · replace hf := if_t hf hc_25
                exact hj_22 _ _ _ _ hf hP hD hS (lv_sub hl [0, 1, 2, 3, 4, 5] rfl)
              · replace hf := if_f hf hc_25
                refine lv_iinc (v := (v4_9 + 1)) (lv' := [(4, .int (v4_9 + 1)), (0, .ref (uX 0)), (1, .int p1), (2, .int p2), (3, .int p3), (5, .int v5_10)]) X.hx X.hb dX10_odds_82 hl (k := 4) rfl rfl (by decide) rfl (fun ls hl => ?_)
                exact hj_22 _ _ _ _ hf hP hD hS (lv_sub hl [1, 2, 3, 4, 0, 5] rfl)
        exact hlo_6 N _ _ _ _ _ _ _ hf hP hD hS (lv_sub hl [2, 3, 4, 5, 1, 0] rfl)
      · replace hf := if_f hf hc_5
        refine lv_iconst (v := (-1)) X.hx X.hb dX10_odds_22 (by decide) ?_
        cases hf
        subst hQ
        exact r_iret X hP hD hS dX10_odds_23

def f_X10_told (N : Nat) (qX : Nat → Option Nat) (iX : Nat → Int32) (sB : Nat → Nat → Int32) (iB : Nat → Int32) (p1 : Int32) : Option (Int32) :=
  (if (iB 7) = 0 then some (-1) else (if p1 = 0 then some (iB 8) else (if p1 = 1 then some (iB 9) else (if p1 = 2 then some (iB 10) else (if p1 = 3 then some (iB 11) else some (-1))))))
set_option maxHeartbeats 4000000 in
set_option maxRecDepth 100000 in
theorem c_X10_told (l : Launch) (G : GT) (N : Nat) (uX uB : Nat → Nat) (xX0 xX1 xX2 xX3 xX4 xX7 xX8 xX10 xX11 xX12 xX13 xB0 xB1 : Nat) (qX : Nat → Option Nat) (iX : Nat → Int32) (sB : Nat → Nat → Int32) (iB : Nat → Int32) (p1 : Int32) {r : Int32} (hf : f_X10_told N qX iX sB iB p1 = some r) : CI l G yX10_told cX10_told 2 .int 1 [.ref (uX 0), .int p1] (gX G uX xX0 xX1 xX2 xX3 xX4 xX7 xX8 (uB 0) xX10 xX11 xX12 xX13 qX iX ++ gB G uB xB0 xB1 sB iB) r (gX G uX xX0 xX1 xX2 xX3 xX4 xX7 xX8 (uB 0) xX10 xX11 xX12 xX13 qX iX ++ gB G uB xB0 xB1 sB iB) := by
  refine CI.of (by decide) (Nat.le_of_ble_eq_true rfl) ?_
  intro p e s m args below meth c A X hA hP hD hS ls hl
  have hl : lv_has ls 2 [(0, .ref (uX 0)), (1, .int p1)] := hl
  generalize hQ : MQ below (QI G A r (gX G uX xX0 xX1 xX2 xX3 xX4 xX7 xX8 (uB 0) xX10 xX11 xX12 xX13 qX iX ++ gB G uB xB0 xB1 sB iB)) args s 0 0 A = QQ
  unfold f_X10_told at hf
  refine lv_aload_n X.hx X.hb dX10_told_0 rfl (lv_at hl 0 rfl) ?_
  refine gf_X10_73 X hP 0 rfl (v := .ref (uB 0)) rfl dX10_told_1 ?_
  refine gf_X10_309 X hP 2 rfl (v := .int (iB 7)) rfl dX10_told_4 ?_
  refine lv_if_ne (tgt := 12) X.hx X.hb dX10_told_7 (by decide) (fun hc_1 => ?_) (fun hc_1 => ?_)
  · replace hf := if_f hf hc_1
    refine lv_iload_n X.hx X.hb dX10_told_12 rfl (lv_at hl 1 rfl) ?_
    by_cases hc_2 : p1 = 0
    · replace hf := if_t hf hc_2
      refine lv_tableIn (tgt := 44) X.hx X.hb dX10_told_13 (by rw [hc_2]; decide) (by rw [hc_2]; decide) (by rw [hc_2]; rfl) (by decide) ?_
      refine lv_aload_n X.hx X.hb dX10_told_44 rfl (lv_at hl 0 rfl) ?_
      refine gf_X10_73 X hP 0 rfl (v := .ref (uB 0)) rfl dX10_told_45 ?_
      refine gf_X10_306 X hP 2 rfl (v := .int (iB 8)) rfl dX10_told_48 ?_
      cases hf
      subst hQ
      exact r_iret X hP hD hS dX10_told_51
    replace hf := if_f hf hc_2
    by_cases hc_3 : p1 = 1
    · replace hf := if_t hf hc_3
      refine lv_tableIn (tgt := 52) X.hx X.hb dX10_told_13 (by rw [hc_3]; decide) (by rw [hc_3]; decide) (by rw [hc_3]; rfl) (by decide) ?_
      refine lv_aload_n X.hx X.hb dX10_told_52 rfl (lv_at hl 0 rfl) ?_
      refine gf_X10_73 X hP 0 rfl (v := .ref (uB 0)) rfl dX10_told_53 ?_
      refine gf_X10_303 X hP 2 rfl (v := .int (iB 9)) rfl dX10_told_56 ?_
      cases hf
      subst hQ
      exact r_iret X hP hD hS dX10_told_59
    replace hf := if_f hf hc_3
    by_cases hc_4 : p1 = 2
    · replace hf := if_t hf hc_4
      refine lv_tableIn (tgt := 60) X.hx X.hb dX10_told_13 (by rw [hc_4]; decide) (by rw [hc_4]; decide) (by rw [hc_4]; rfl) (by decide) ?_
      refine lv_aload_n X.hx X.hb dX10_told_60 rfl (lv_at hl 0 rfl) ?_
      refine gf_X10_73 X hP 0 rfl (v := .ref (uB 0)) rfl dX10_told_61 ?_
      refine gf_X10_313 X hP 2 rfl (v := .int (iB 10)) rfl dX10_told_64 ?_
      cases hf
      subst hQ
      exact r_iret X hP hD hS dX10_told_67
    replace hf := if_f hf hc_4
    by_cases hc_5 : p1 = 3
    · replace hf := if_t hf hc_5
      refine lv_tableIn (tgt := 68) X.hx X.hb dX10_told_13 (by rw [hc_5]; decide) (by rw [hc_5]; decide) (by rw [hc_5]; rfl) (by decide) ?_
      refine lv_aload_n X.hx X.hb dX10_told_68 rfl (lv_at hl 0 rfl) ?_
      refine gf_X10_73 X hP 0 rfl (v := .ref (uB 0)) rfl dX10_told_69 ?_
      refine gf_X10_316 X hP 2 rfl (v := .int (iB 11)) rfl dX10_told_72 ?_
      cases hf
      subst hQ
      exact r_iret X hP hD hS dX10_told_75
    replace hf := if_f hf hc_5
    refine r_tbd (tgt := 76) X.hx X.hb dX10_told_13 [0, 1, 2, 3] (by decide) (List.forall_mem_cons.mpr ⟨lv_neT hc_2 rfl, List.forall_mem_cons.mpr ⟨lv_neT hc_3 rfl, List.forall_mem_cons.mpr ⟨lv_neT hc_4 rfl, List.forall_mem_cons.mpr ⟨lv_neT hc_5 rfl, fun _ h => absurd h List.not_mem_nil⟩⟩⟩⟩) (by decide) ?_
    refine lv_iconst (v := (-1)) X.hx X.hb dX10_told_76 (by decide) ?_
    cases hf
    subst hQ
    exact r_iret X hP hD hS dX10_told_77
  · replace hf := if_t hf hc_1
    refine lv_iconst (v := (-1)) X.hx X.hb dX10_told_10 (by decide) ?_
    cases hf
    subst hQ
    exact r_iret X hP hD hS dX10_told_11

def f_X10_sentence (N : Nat) (qX : Nat → Option Nat) (iX : Nat → Int32) (sT : Nat → Nat → Int32) (iT : Nat → Int32) (jT : Nat → Int64) (iC : Nat → Int32) (tC : Nat → Nat → Int64) (sC : Nat → Nat → Int32) (iS : Nat → Int32) (sS : Nat → Nat → Int32) (iS2 : Nat → Int32) (sS2 : Nat → Nat → Int32) : Option (Int32 × (Nat → Int32) × (Nat → Int64) × (Nat → Int32) × (Nat → Nat → Int32) × (Nat → Int32) × (Nat → Nat → Int32)) :=
  bd (f_X7_readText N sT iT jT iC tC sC iS sS) (fun (r_1, iT_2, jT_3, iS_4, sS_5) => (if r_1 = 0 then some (((-1 : Int32) - (iT_2 12)), (va_up iT_2 1 0), jT_3, iS_4, sS_5, iS2, sS2) else bd (f_X6_copyFrom N iS2 sS2 iS_4 sS_5) (fun (iS2_8, sS2_9) => some ((iS2_8 0), (va_up iT_2 1 0), jT_3, iS_4, sS_5, iS2_8, sS2_9))))
set_option maxHeartbeats 4000000 in
set_option maxRecDepth 100000 in
theorem c_X10_sentence (l : Launch) (G : GT) (N : Nat) (uX uQ uT uC uS uS2 : Nat → Nat) (xX2 xX3 xX4 xX7 xX8 xX9 xX12 xX13 : Nat) (qX : Nat → Option Nat) (iX : Nat → Int32) (sT : Nat → Nat → Int32) (iT : Nat → Int32) (jT : Nat → Int64) (iC : Nat → Int32) (tC : Nat → Nat → Int64) (sC : Nat → Nat → Int32) (iS : Nat → Int32) (sS : Nat → Nat → Int32) (iS2 : Nat → Int32) (sS2 : Nat → Nat → Int32) {r : Int32} {iT' : Nat → Int32} {jT' : Nat → Int64} {iS' : Nat → Int32} {sS' : Nat → Nat → Int32} {iS2' : Nat → Int32} {sS2' : Nat → Nat → Int32} (hf : f_X10_sentence N qX iX sT iT jT iC tC sC iS sS iS2 sS2 = some (r, iT', jT', iS', sS', iS2', sS2')) : CI l G yX10_sentence cX10_sentence 2 .int 29 [.ref (uX 0)] (gX G uX (uT 0) (uC 0) xX2 xX3 xX4 xX7 xX8 xX9 (uS2 0) (uQ 0) xX12 xX13 qX iX ++ gQ G uQ (uT 0) (uC 0) (uS 0) ++ gT G uT sT iT jT ++ gC G uC iC tC sC ++ gS G uS iS sS ++ gS G uS2 iS2 sS2) r (gX G uX (uT 0) (uC 0) xX2 xX3 xX4 xX7 xX8 xX9 (uS2 0) (uQ 0) xX12 xX13 qX iX ++ gQ G uQ (uT 0) (uC 0) (uS 0) ++ gT G uT sT iT' jT' ++ gC G uC iC tC sC ++ gS G uS iS' sS' ++ gS G uS2 iS2' sS2') := by
  refine CI.of (by decide) (Nat.le_of_ble_eq_true rfl) ?_
  intro p e s m args below meth c A X hA hP hD hS ls hl
  have hl : lv_has ls 2 [(0, .ref (uX 0))] := hl
  generalize hQ : MQ below (QI G A r (gX G uX (uT 0) (uC 0) xX2 xX3 xX4 xX7 xX8 xX9 (uS2 0) (uQ 0) xX12 xX13 qX iX ++ gQ G uQ (uT 0) (uC 0) (uS 0) ++ gT G uT sT iT' jT' ++ gC G uC iC tC sC ++ gS G uS iS' sS' ++ gS G uS2 iS2' sS2')) args s 0 0 A = QQ
  unfold f_X10_sentence at hf
  refine lv_aload_n X.hx X.hb dX10_sentence_0 rfl (lv_at hl 0 rfl) ?_
  refine gf_X10_87 X hP 0 rfl (v := .ref (uQ 0)) rfl dX10_sentence_1 ?_
  obtain ⟨⟨r_1, iT_2, jT_3, iS_4, sS_5⟩, hc_6, hf⟩ := bd_i hf
  refine r_bvi (gX G uX (uT 0) (uC 0) xX2 xX3 xX4 xX7 xX8 xX9 (uS2 0) (uQ 0) xX12 xX13 qX iX) (gS G uS2 iS2 sS2) (As := []) (rest := []) X sm_X10_319 (c_X7_readText l G N uQ uT uC uS sT iT jT iC tC sC iS sS hc_6) hP hD hS hA (by simp only [List.append_assoc, List.append_nil, List.nil_append]) (wo := (gX G uX (uT 0) (uC 0) xX2 xX3 xX4 xX7 xX8 xX9 (uS2 0) (uQ 0) xX12 xX13 qX iX ++ gQ G uQ (uT 0) (uC 0) (uS 0) ++ gT G uT sT iT_2 jT_3 ++ gC G uC iC tC sC ++ gS G uS iS_4 sS_5 ++ gS G uS2 iS2 sS2)) (by simp only [List.append_assoc, List.append_nil, List.nil_append]) 0 rfl rfl rfl hl.1 (lv_room (Nat.le_of_ble_eq_true rfl)) ⟨Nat.le_of_ble_eq_true rfl, Nat.le_of_ble_eq_true rfl⟩ ⟨Nat.zero_le _, Nat.zero_le _⟩ dX10_sentence_4 (fun H locs hP hD hS => ?_)
  refine lv_istore_n (lv' := [(1, .int r_1), (0, .ref (uX 0))]) X.hx X.hb dX10_sentence_7 rfl hl (by decide) rfl (fun ls hl => ?_)
  refine lv_aload_n X.hx X.hb dX10_sentence_8 rfl (lv_at hl 1 rfl) ?_
  refine gf_X10_10 X hP 0 rfl (v := .ref (uT 0)) rfl dX10_sentence_9 ?_
  refine lv_iconst (v := 0) X.hx X.hb dX10_sentence_12 (by decide) ?_
  refine pf_X10_112 X hP hD hS 3 rfl rfl rfl (Nat.le_of_ble_eq_true rfl) (wo := (gX G uX (uT 0) (uC 0) xX2 xX3 xX4 xX7 xX8 xX9 (uS2 0) (uQ 0) xX12 xX13 qX iX ++ gQ G uQ (uT 0) (uC 0) (uS 0) ++ gT G uT sT (va_up iT_2 1 0) jT_3 ++ gC G uC iC tC sC ++ gS G uS iS_4 sS_5 ++ gS G uS2 iS2 sS2)) rfl dX10_sentence_13 (fun H locs hP hD hS => ?_)
  refine lv_iload_n X.hx X.hb dX10_sentence_16 rfl (lv_at hl 0 rfl) ?_
  refine lv_if_ne (tgt := 30) X.hx X.hb dX10_sentence_17 (by decide) (fun hc_7 => ?_) (fun hc_7 => ?_)
  · replace hf := if_f hf hc_7
    refine lv_aload_n X.hx X.hb dX10_sentence_30 rfl (lv_at hl 1 rfl) ?_
    refine gf_X10_80 X hP 0 rfl (v := .ref (uS2 0)) rfl dX10_sentence_31 ?_
    refine lv_aload_n X.hx X.hb dX10_sentence_34 rfl (lv_at hl 1 rfl) ?_
    refine gf_X10_87 X hP 0 rfl (v := .ref (uQ 0)) rfl dX10_sentence_35 ?_
    refine gf_X10_320 X hP 2 rfl (v := .ref (uS 0)) rfl dX10_sentence_38 ?_
    obtain ⟨⟨iS2_8, sS2_9⟩, hc_10, hf⟩ := bd_i hf
    refine r_pvv [gX G uX (uT 0) (uC 0) xX2 xX3 xX4 xX7 xX8 xX9 (uS2 0) (uQ 0) xX12 xX13 qX iX, gQ G uQ (uT 0) (uC 0) (uS 0), gT G uT sT (va_up iT_2 1 0) jT_3, gC G uC iC tC sC, gS G uS iS_4 sS_5, gS G uS2 iS2 sS2] [gX G uX (uT 0) (uC 0) xX2 xX3 xX4 xX7 xX8 xX9 (uS2 0) (uQ 0) xX12 xX13 qX iX, gQ G uQ (uT 0) (uC 0) (uS 0), gT G uT sT (va_up iT_2 1 0) jT_3, gC G uC iC tC sC, gS G uS iS_4 sS_5, gS G uS2 iS2_8 sS2_9] [gS G uS2 iS2 sS2, gS G uS iS_4 sS_5] [gS G uS2 iS2_8 sS2_9, gS G uS iS_4 sS_5] [gX G uX (uT 0) (uC 0) xX2 xX3 xX4 xX7 xX8 xX9 (uS2 0) (uQ 0) xX12 xX13 qX iX, gQ G uQ (uT 0) (uC 0) (uS 0), gT G uT sT (va_up iT_2 1 0) jT_3, gC G uC iC tC sC] 6 [5, 4] [0, 1, 2, 3] (As := [.ref (uS 0)]) (rest := []) X sm_X10_322 (c_X6_copyFrom l G N uS2 uS iS2 sS2 iS_4 sS_5 hc_10) hP hD hS hA rfl rfl (by decide) (by simp only [List.flatten_cons, List.flatten_nil, List.append_assoc, List.append_nil]) rfl (by simp only [List.flatten_cons, List.flatten_nil, List.append_assoc, List.append_nil]) rfl (by simp only [List.flatten_cons, List.flatten_nil, List.append_assoc, List.append_nil]) rfl rfl (wo := (gX G uX (uT 0) (uC 0) xX2 xX3 xX4 xX7 xX8 xX9 (uS2 0) (uQ 0) xX12 xX13 qX iX ++ gQ G uQ (uT 0) (uC 0) (uS 0) ++ gT G uT sT (va_up iT_2 1 0) jT_3 ++ gC G uC iC tC sC ++ gS G uS iS_4 sS_5 ++ gS G uS2 iS2_8 sS2_9)) (by simp only [List.flatten_cons, List.flatten_nil, List.append_assoc, List.append_nil]) 0 rfl rfl rfl hl.1 (lv_room (Nat.le_of_ble_eq_true rfl)) ⟨Nat.le_of_ble_eq_true rfl, Nat.le_of_ble_eq_true rfl⟩ ⟨Nat.zero_le _, Nat.zero_le _⟩ dX10_sentence_41 (fun H locs hP hD hS => ?_)
    refine lv_aload_n X.hx X.hb dX10_sentence_44 rfl (lv_at hl 1 rfl) ?_
    refine gf_X10_80 X hP 0 rfl (v := .ref (uS2 0)) rfl dX10_sentence_45 ?_
    refine gf_X10_325 X hP 19 rfl (v := .int (iS2_8 0)) rfl dX10_sentence_48 ?_
    cases hf
    subst hQ
    exact r_iret X hP hD hS dX10_sentence_51
  · replace hf := if_t hf hc_7
    refine lv_iconst (v := (-1)) X.hx X.hb dX10_sentence_20 (by decide) ?_
    refine lv_aload_n X.hx X.hb dX10_sentence_21 rfl (lv_at hl 1 rfl) ?_
    refine gf_X10_10 X hP 0 rfl (v := .ref (uT 0)) rfl dX10_sentence_22 ?_
    refine gf_X10_119 X hP 3 rfl (v := .int (iT_2 12)) rfl dX10_sentence_25 ?_
    refine lv_isub X.hx X.hb dX10_sentence_28 ?_
    obtain ⟨rfl, he_0⟩ := Prod.mk.inj (Option.some.inj hf)
    obtain ⟨rfl, he_1⟩ := Prod.mk.inj he_0
    obtain ⟨rfl, he_2⟩ := Prod.mk.inj he_1
    obtain ⟨rfl, he_3⟩ := Prod.mk.inj he_2
    obtain ⟨rfl, he_4⟩ := Prod.mk.inj he_3
    obtain ⟨rfl, he_5⟩ := Prod.mk.inj he_4
    subst he_5
    subst hQ
    exact r_iret X hP hD hS dX10_sentence_29

def f_X10_said (N : Nat) (qX : Nat → Option Nat) (iX : Nat → Int32) (iS : Nat → Int32) (sS : Nat → Nat → Int32) (iM : Nat → Int32) (sM : Nat → Nat → Int32) (iC : Nat → Int32) (tC : Nat → Nat → Int64) (sC : Nat → Nat → Int32) (p1 : Int32) : Option (Int32 × (Nat → Nat → Int32)) :=
  (if (iS 0) = 0 then some ((-1), sS) else (if ((-1) : Int32) ≤ p1 then bd (f_X6_trueOf N iS sS iM sM iC tC sC) (fun (r_3, sS_4) => (if p1 = (-1) then bd (f_J6_bitCount_0f7a4 N r_3) (fun r_9 => some (r_9, sS_4)) else bd (f_X10_bitAt N r_3 p1) (fun r_7 => some (r_7, sS_4)))) else some ((-1), sS)))
set_option maxHeartbeats 4000000 in
set_option maxRecDepth 100000 in
theorem c_X10_said (l : Launch) (G : GT) (N : Nat) (uX uS uM uC : Nat → Nat) (xX0 xX2 xX4 xX7 xX8 xX9 xX11 xX12 xX13 : Nat) (qX : Nat → Option Nat) (iX : Nat → Int32) (iS : Nat → Int32) (sS : Nat → Nat → Int32) (iM : Nat → Int32) (sM : Nat → Nat → Int32) (iC : Nat → Int32) (tC : Nat → Nat → Int64) (sC : Nat → Nat → Int32) (p1 : Int32) {r : Int32} {sS' : Nat → Nat → Int32} (hf : f_X10_said N qX iX iS sS iM sM iC tC sC p1 = some (r, sS')) : CI l G yX10_said cX10_said 3 .int 6 [.ref (uX 0), .int p1] (gX G uX xX0 (uC 0) xX2 (uM 0) xX4 xX7 xX8 xX9 (uS 0) xX11 xX12 xX13 qX iX ++ gS G uS iS sS ++ gM G uM (uC 0) iM sM ++ gC G uC iC tC sC) r (gX G uX xX0 (uC 0) xX2 (uM 0) xX4 xX7 xX8 xX9 (uS 0) xX11 xX12 xX13 qX iX ++ gS G uS iS sS' ++ gM G uM (uC 0) iM sM ++ gC G uC iC tC sC) := by
  refine CI.of (by decide) (Nat.le_of_ble_eq_true rfl) ?_
  intro p e s m args below meth c A X hA hP hD hS ls hl
  have hl : lv_has ls 3 [(0, .ref (uX 0)), (1, .int p1)] := hl
  generalize hQ : MQ below (QI G A r (gX G uX xX0 (uC 0) xX2 (uM 0) xX4 xX7 xX8 xX9 (uS 0) xX11 xX12 xX13 qX iX ++ gS G uS iS sS' ++ gM G uM (uC 0) iM sM ++ gC G uC iC tC sC)) args s 0 0 A = QQ
  unfold f_X10_said at hf
  refine lv_aload_n X.hx X.hb dX10_said_0 rfl (lv_at hl 0 rfl) ?_
  refine gf_X10_80 X hP 0 rfl (v := .ref (uS 0)) rfl dX10_said_1 ?_
  refine gf_X10_325 X hP 2 rfl (v := .int (iS 0)) rfl dX10_said_4 ?_
  refine lv_if_eq (tgt := 15) X.hx X.hb dX10_said_7 (by decide) (fun hc_1 => ?_) (fun hc_1 => ?_)
  · replace hf := if_t hf hc_1
    refine lv_iconst (v := (-1)) X.hx X.hb dX10_said_15 (by decide) ?_
    cases hf
    subst hQ
    exact r_iret X hP hD hS dX10_said_16
  · replace hf := if_f hf hc_1
    refine lv_iload_n X.hx X.hb dX10_said_10 rfl (lv_at hl 1 rfl) ?_
    refine lv_iconst (v := (-1)) X.hx X.hb dX10_said_11 (by decide) ?_
    refine lv_icmp_ge (tgt := 17) X.hx X.hb dX10_said_12 (by decide) (fun hc_2 => ?_) (fun hc_2 => ?_)
    · replace hf := if_t hf hc_2
      refine lv_aload_n X.hx X.hb dX10_said_17 rfl (lv_at hl 0 rfl) ?_
      refine gf_X10_80 X hP 0 rfl (v := .ref (uS 0)) rfl dX10_said_18 ?_
      refine lv_aload_n X.hx X.hb dX10_said_21 rfl (lv_at hl 0 rfl) ?_
      refine gf_X10_19 X hP 0 rfl (v := .ref (uC 0)) rfl dX10_said_22 ?_
      refine lv_aload_n X.hx X.hb dX10_said_25 rfl (lv_at hl 0 rfl) ?_
      refine gf_X10_37 X hP 0 rfl (v := .ref (uM 0)) rfl dX10_said_26 ?_
      obtain ⟨⟨r_3, sS_4⟩, hc_5, hf⟩ := bd_i hf
      refine r_bvi (gX G uX xX0 (uC 0) xX2 (uM 0) xX4 xX7 xX8 xX9 (uS 0) xX11 xX12 xX13 qX iX) ([] : va_W) (As := [.ref (uC 0), .ref (uM 0)]) (rest := []) X sm_X10_328 (c_X6_trueOf l G N uS uM uC iS sS iM sM iC tC sC hc_5) hP hD hS hA (by simp only [List.append_assoc, List.append_nil, List.nil_append]) (wo := (gX G uX xX0 (uC 0) xX2 (uM 0) xX4 xX7 xX8 xX9 (uS 0) xX11 xX12 xX13 qX iX ++ gS G uS iS sS_4 ++ gM G uM (uC 0) iM sM ++ gC G uC iC tC sC)) (by simp only [List.append_assoc, List.append_nil, List.nil_append]) 0 rfl rfl rfl hl.1 (lv_room (Nat.le_of_ble_eq_true rfl)) ⟨Nat.le_of_ble_eq_true rfl, Nat.le_of_ble_eq_true rfl⟩ ⟨Nat.zero_le _, Nat.zero_le _⟩ dX10_said_29 (fun H locs hP hD hS => ?_)
      refine lv_istore_n (lv' := [(2, .int r_3), (0, .ref (uX 0)), (1, .int p1)]) X.hx X.hb dX10_said_32 rfl hl (by decide) rfl (fun ls hl => ?_)
      refine lv_iload_n X.hx X.hb dX10_said_33 rfl (lv_at hl 2 rfl) ?_
      refine lv_iconst (v := (-1)) X.hx X.hb dX10_said_34 (by decide) ?_
      refine lv_icmp_ne (tgt := 45) X.hx X.hb dX10_said_35 (by decide) (fun hc_6 => ?_) (fun hc_6 => ?_)
      · replace hf := if_f hf hc_6
        refine lv_iload_n X.hx X.hb dX10_said_45 rfl (lv_at hl 0 rfl) ?_
        refine lv_iload_n X.hx X.hb dX10_said_46 rfl (lv_at hl 2 rfl) ?_
        obtain ⟨r_7, hc_8, hf⟩ := bd_i hf
        refine r_cs0 (As := [.int r_3, .int p1]) (rest := []) X sm_X10_337 (c_X10_bitAt l G N r_3 p1 hc_8) hP hD hS hA rfl hl.1 (lv_room (Nat.le_of_ble_eq_true rfl)) ⟨Nat.le_of_ble_eq_true rfl, Nat.le_of_ble_eq_true rfl⟩ ⟨Nat.zero_le _, Nat.zero_le _⟩ dX10_said_47 (fun H locs hP hD hS => ?_)
        cases hf
        subst hQ
        exact r_iret X hP hD hS dX10_said_50
      · replace hf := if_t hf hc_6
        refine lv_iload_n X.hx X.hb dX10_said_38 rfl (lv_at hl 0 rfl) ?_
        obtain ⟨r_9, hc_10, hf⟩ := bd_i hf
        refine r_cs0 (As := [.int r_3]) (rest := []) X sm_X10_332 (c_J6_bitCount_0f7a4 l G N r_3 hc_10) hP hD hS hA rfl hl.1 (lv_room (Nat.le_of_ble_eq_true rfl)) ⟨Nat.le_of_ble_eq_true rfl, Nat.le_of_ble_eq_true rfl⟩ ⟨Nat.zero_le _, Nat.zero_le _⟩ dX10_said_39 (fun H locs hP hD hS => ?_)
        refine lv_goto (tgt := 50) X.hx X.hb dX10_said_42 (by decide) ?_
        cases hf
        subst hQ
        exact r_iret X hP hD hS dX10_said_50
    · replace hf := if_f hf hc_2
      refine lv_iconst (v := (-1)) X.hx X.hb dX10_said_15 (by decide) ?_
      cases hf
      subst hQ
      exact r_iret X hP hD hS dX10_said_16

def f_X10_count (N : Nat) (qX : Nat → Option Nat) (iX : Nat → Int32) (iC : Nat → Int32) (tC : Nat → Nat → Int64) (sC : Nat → Nat → Int32) (sT : Nat → Nat → Int32) (iT : Nat → Int32) (jT : Nat → Int64) (p1 : Int32) : Option (Int32) :=
  (if p1 = 0 then some (iC 0) else (if p1 = 1 then some (iC 1) else (if p1 = 2 then some (iC 9) else (if p1 = 3 then some (iC 10) else (if p1 = 4 then some (iC 11) else (if p1 = 5 then some (iT 1) else some (-1)))))))
set_option maxHeartbeats 4000000 in
set_option maxRecDepth 100000 in
theorem c_X10_count (l : Launch) (G : GT) (N : Nat) (uX uC uT : Nat → Nat) (xX2 xX3 xX4 xX7 xX8 xX9 xX10 xX11 xX12 xX13 : Nat) (qX : Nat → Option Nat) (iX : Nat → Int32) (iC : Nat → Int32) (tC : Nat → Nat → Int64) (sC : Nat → Nat → Int32) (sT : Nat → Nat → Int32) (iT : Nat → Int32) (jT : Nat → Int64) (p1 : Int32) {r : Int32} (hf : f_X10_count N qX iX iC tC sC sT iT jT p1 = some r) : CI l G yX10_count cX10_count 2 .int 1 [.ref (uX 0), .int p1] (gX G uX (uT 0) (uC 0) xX2 xX3 xX4 xX7 xX8 xX9 xX10 xX11 xX12 xX13 qX iX ++ gC G uC iC tC sC ++ gT G uT sT iT jT) r (gX G uX (uT 0) (uC 0) xX2 xX3 xX4 xX7 xX8 xX9 xX10 xX11 xX12 xX13 qX iX ++ gC G uC iC tC sC ++ gT G uT sT iT jT) := by
  refine CI.of (by decide) (Nat.le_of_ble_eq_true rfl) ?_
  intro p e s m args below meth c A X hA hP hD hS ls hl
  have hl : lv_has ls 2 [(0, .ref (uX 0)), (1, .int p1)] := hl
  generalize hQ : MQ below (QI G A r (gX G uX (uT 0) (uC 0) xX2 xX3 xX4 xX7 xX8 xX9 xX10 xX11 xX12 xX13 qX iX ++ gC G uC iC tC sC ++ gT G uT sT iT jT)) args s 0 0 A = QQ
  unfold f_X10_count at hf
  refine lv_iload_n X.hx X.hb dX10_count_0 rfl (lv_at hl 1 rfl) ?_
  by_cases hc_1 : p1 = 0
  · replace hf := if_t hf hc_1
    refine lv_tableIn (tgt := 40) X.hx X.hb dX10_count_1 (by rw [hc_1]; decide) (by rw [hc_1]; decide) (by rw [hc_1]; rfl) (by decide) ?_
    refine lv_aload_n X.hx X.hb dX10_count_40 rfl (lv_at hl 0 rfl) ?_
    refine gf_X10_19 X hP 0 rfl (v := .ref (uC 0)) rfl dX10_count_41 ?_
    refine gf_X10_346 X hP 2 rfl (v := .int (iC 0)) rfl dX10_count_44 ?_
    cases hf
    subst hQ
    exact r_iret X hP hD hS dX10_count_47
  replace hf := if_f hf hc_1
  by_cases hc_2 : p1 = 1
  · replace hf := if_t hf hc_2
    refine lv_tableIn (tgt := 48) X.hx X.hb dX10_count_1 (by rw [hc_2]; decide) (by rw [hc_2]; decide) (by rw [hc_2]; rfl) (by decide) ?_
    refine lv_aload_n X.hx X.hb dX10_count_48 rfl (lv_at hl 0 rfl) ?_
    refine gf_X10_19 X hP 0 rfl (v := .ref (uC 0)) rfl dX10_count_49 ?_
    refine gf_X10_349 X hP 2 rfl (v := .int (iC 1)) rfl dX10_count_52 ?_
    cases hf
    subst hQ
    exact r_iret X hP hD hS dX10_count_55
  replace hf := if_f hf hc_2
  by_cases hc_3 : p1 = 2
  · replace hf := if_t hf hc_3
    refine lv_tableIn (tgt := 56) X.hx X.hb dX10_count_1 (by rw [hc_3]; decide) (by rw [hc_3]; decide) (by rw [hc_3]; rfl) (by decide) ?_
    refine lv_aload_n X.hx X.hb dX10_count_56 rfl (lv_at hl 0 rfl) ?_
    refine gf_X10_19 X hP 0 rfl (v := .ref (uC 0)) rfl dX10_count_57 ?_
    refine gf_X10_352 X hP 2 rfl (v := .int (iC 9)) rfl dX10_count_60 ?_
    cases hf
    subst hQ
    exact r_iret X hP hD hS dX10_count_63
  replace hf := if_f hf hc_3
  by_cases hc_4 : p1 = 3
  · replace hf := if_t hf hc_4
    refine lv_tableIn (tgt := 64) X.hx X.hb dX10_count_1 (by rw [hc_4]; decide) (by rw [hc_4]; decide) (by rw [hc_4]; rfl) (by decide) ?_
    refine lv_aload_n X.hx X.hb dX10_count_64 rfl (lv_at hl 0 rfl) ?_
    refine gf_X10_19 X hP 0 rfl (v := .ref (uC 0)) rfl dX10_count_65 ?_
    refine gf_X10_354 X hP 2 rfl (v := .int (iC 10)) rfl dX10_count_68 ?_
    cases hf
    subst hQ
    exact r_iret X hP hD hS dX10_count_71
  replace hf := if_f hf hc_4
  by_cases hc_5 : p1 = 4
  · replace hf := if_t hf hc_5
    refine lv_tableIn (tgt := 72) X.hx X.hb dX10_count_1 (by rw [hc_5]; decide) (by rw [hc_5]; decide) (by rw [hc_5]; rfl) (by decide) ?_
    refine lv_aload_n X.hx X.hb dX10_count_72 rfl (lv_at hl 0 rfl) ?_
    refine gf_X10_19 X hP 0 rfl (v := .ref (uC 0)) rfl dX10_count_73 ?_
    refine gf_X10_357 X hP 2 rfl (v := .int (iC 11)) rfl dX10_count_76 ?_
    cases hf
    subst hQ
    exact r_iret X hP hD hS dX10_count_79
  replace hf := if_f hf hc_5
  by_cases hc_6 : p1 = 5
  · replace hf := if_t hf hc_6
    refine lv_tableIn (tgt := 80) X.hx X.hb dX10_count_1 (by rw [hc_6]; decide) (by rw [hc_6]; decide) (by rw [hc_6]; rfl) (by decide) ?_
    refine lv_aload_n X.hx X.hb dX10_count_80 rfl (lv_at hl 0 rfl) ?_
    refine gf_X10_10 X hP 0 rfl (v := .ref (uT 0)) rfl dX10_count_81 ?_
    refine gf_X10_112 X hP 10 rfl (v := .int (iT 1)) rfl dX10_count_84 ?_
    cases hf
    subst hQ
    exact r_iret X hP hD hS dX10_count_87
  replace hf := if_f hf hc_6
  refine r_tbd (tgt := 88) X.hx X.hb dX10_count_1 [0, 1, 2, 3, 4, 5] (by decide) (List.forall_mem_cons.mpr ⟨lv_neT hc_1 rfl, List.forall_mem_cons.mpr ⟨lv_neT hc_2 rfl, List.forall_mem_cons.mpr ⟨lv_neT hc_3 rfl, List.forall_mem_cons.mpr ⟨lv_neT hc_4 rfl, List.forall_mem_cons.mpr ⟨lv_neT hc_5 rfl, List.forall_mem_cons.mpr ⟨lv_neT hc_6 rfl, fun _ h => absurd h List.not_mem_nil⟩⟩⟩⟩⟩⟩) (by decide) ?_
  refine lv_iconst (v := (-1)) X.hx X.hb dX10_count_88 (by decide) ?_
  cases hf
  subst hQ
  exact r_iret X hP hD hS dX10_count_89

def f_X10_keepForUndo_A (N : Nat) (iX : Nat → Int32) (iM : Nat → Int32) (sM : Nat → Nat → Int32) (iM2 : Nat → Int32) (sM2 : Nat → Nat → Int32) (iM3 : Nat → Int32) (sM3 : Nat → Nat → Int32) (iM4 : Nat → Int32) (sM4 : Nat → Nat → Int32) (iM5 : Nat → Int32) (sM5 : Nat → Nat → Int32) (iM6 : Nat → Int32) (sM6 : Nat → Nat → Int32) (iM7 : Nat → Int32) (sM7 : Nat → Nat → Int32) (iM8 : Nat → Int32) (sM8 : Nat → Nat → Int32) (iM9 : Nat → Int32) (sM9 : Nat → Nat → Int32) : Option ((Nat → Int32) × (Nat → Int32) × (Nat → Nat → Int32) × (Nat → Int32) × (Nat → Nat → Int32) × (Nat → Int32) × (Nat → Nat → Int32) × (Nat → Int32) × (Nat → Nat → Int32) × (Nat → Int32) × (Nat → Nat → Int32) × (Nat → Int32) × (Nat → Nat → Int32) × (Nat → Int32) × (Nat → Nat → Int32) × (Nat → Int32) × (Nat → Nat → Int32)) :=
  (if (iX 6) = 0 then bd (f_X4_copyFrom N iM2 sM2 iM sM) (fun (iM2_2, sM2_3) => some ((va_up iX 6 ((iX 6) + 1)), iM2_2, sM2_3, iM3, sM3, iM4, sM4, iM5, sM5, iM6, sM6, iM7, sM7, iM8, sM8, iM9, sM9)) else (if (iX 6) = 1 then bd (f_X4_copyFrom N iM3 sM3 iM sM) (fun (iM3_6, sM3_7) => some ((va_up iX 6 ((iX 6) + 1)), iM2, sM2, iM3_6, sM3_7, iM4, sM4, iM5, sM5, iM6, sM6, iM7, sM7, iM8, sM8, iM9, sM9)) else (if (iX 6) = 2 then bd (f_X4_copyFrom N iM4 sM4 iM sM) (fun (iM4_10, sM4_11) => some ((va_up iX 6 ((iX 6) + 1)), iM2, sM2, iM3, sM3, iM4_10, sM4_11, iM5, sM5, iM6, sM6, iM7, sM7, iM8, sM8, iM9, sM9)) else (if (iX 6) = 3 then bd (f_X4_copyFrom N iM5 sM5 iM sM) (fun (iM5_14, sM5_15) => some ((va_up iX 6 ((iX 6) + 1)), iM2, sM2, iM3, sM3, iM4, sM4, iM5_14, sM5_15, iM6, sM6, iM7, sM7, iM8, sM8, iM9, sM9)) else (if (iX 6) = 4 then bd (f_X4_copyFrom N iM6 sM6 iM sM) (fun (iM6_18, sM6_19) => some ((va_up iX 6 ((iX 6) + 1)), iM2, sM2, iM3, sM3, iM4, sM4, iM5, sM5, iM6_18, sM6_19, iM7, sM7, iM8, sM8, iM9, sM9)) else (if (iX 6) = 5 then bd (f_X4_copyFrom N iM7 sM7 iM sM) (fun (iM7_22, sM7_23) => some ((va_up iX 6 ((iX 6) + 1)), iM2, sM2, iM3, sM3, iM4, sM4, iM5, sM5, iM6, sM6, iM7_22, sM7_23, iM8, sM8, iM9, sM9)) else (if (iX 6) = 6 then bd (f_X4_copyFrom N iM8 sM8 iM sM) (fun (iM8_26, sM8_27) => some ((va_up iX 6 ((iX 6) + 1)), iM2, sM2, iM3, sM3, iM4, sM4, iM5, sM5, iM6, sM6, iM7, sM7, iM8_26, sM8_27, iM9, sM9)) else (if (iX 6) = 7 then bd (f_X4_copyFrom N iM9 sM9 iM sM) (fun (iM9_30, sM9_31) => some ((va_up iX 6 ((iX 6) + 1)), iM2, sM2, iM3, sM3, iM4, sM4, iM5, sM5, iM6, sM6, iM7, sM7, iM8, sM8, iM9_30, sM9_31)) else none))))))))
set_option maxHeartbeats 4000000 in
set_option maxRecDepth 100000 in
theorem c_X10_keepForUndo_A (l : Launch) (G : GT) (N : Nat) (uX uM uM2 uM3 uM4 uM5 uM6 uM7 uM8 uM9 : Nat → Nat) (xX0 xX1 xX2 xX4 xX7 xX8 xX9 xX10 xX11 xX12 xX13 xM0 xM20 xM30 xM40 xM50 xM60 xM70 xM80 xM90 : Nat) (iX : Nat → Int32) (iM : Nat → Int32) (sM : Nat → Nat → Int32) (iM2 : Nat → Int32) (sM2 : Nat → Nat → Int32) (iM3 : Nat → Int32) (sM3 : Nat → Nat → Int32) (iM4 : Nat → Int32) (sM4 : Nat → Nat → Int32) (iM5 : Nat → Int32) (sM5 : Nat → Nat → Int32) (iM6 : Nat → Int32) (sM6 : Nat → Nat → Int32) (iM7 : Nat → Int32) (sM7 : Nat → Nat → Int32) (iM8 : Nat → Int32) (sM8 : Nat → Nat → Int32) (iM9 : Nat → Int32) (sM9 : Nat → Nat → Int32) (h0 : (iX 6) < 8) {iX' : Nat → Int32} {iM2' : Nat → Int32} {sM2' : Nat → Nat → Int32} {iM3' : Nat → Int32} {sM3' : Nat → Nat → Int32} {iM4' : Nat → Int32} {sM4' : Nat → Nat → Int32} {iM5' : Nat → Int32} {sM5' : Nat → Nat → Int32} {iM6' : Nat → Int32} {sM6' : Nat → Nat → Int32} {iM7' : Nat → Int32} {sM7' : Nat → Nat → Int32} {iM8' : Nat → Int32} {sM8' : Nat → Nat → Int32} {iM9' : Nat → Int32} {sM9' : Nat → Nat → Int32} (hf : f_X10_keepForUndo_A N iX iM sM iM2 sM2 iM3 sM3 iM4 sM4 iM5 sM5 iM6 sM6 iM7 sM7 iM8 sM8 iM9 sM9 = some (iX', iM2', sM2', iM3', sM3', iM4', sM4', iM5', sM5', iM6', sM6', iM7', sM7', iM8', sM8', iM9', sM9')) : CV l G yX10_keepForUndo cX10_keepForUndo 3 3 [.ref (uX 0)] (gX G uX xX0 xX1 xX2 (uM 0) xX4 xX7 xX8 xX9 xX10 xX11 xX12 xX13 (kl8 (uM2 0) (uM3 0) (uM4 0) (uM5 0) (uM6 0) (uM7 0) (uM8 0) (uM9 0)) iX ++ gM G uM xM0 iM sM ++ gM G uM2 xM20 iM2 sM2 ++ gM G uM3 xM30 iM3 sM3 ++ gM G uM4 xM40 iM4 sM4 ++ gM G uM5 xM50 iM5 sM5 ++ gM G uM6 xM60 iM6 sM6 ++ gM G uM7 xM70 iM7 sM7 ++ gM G uM8 xM80 iM8 sM8 ++ gM G uM9 xM90 iM9 sM9) (gX G uX xX0 xX1 xX2 (uM 0) xX4 xX7 xX8 xX9 xX10 xX11 xX12 xX13 (kl8 (uM2 0) (uM3 0) (uM4 0) (uM5 0) (uM6 0) (uM7 0) (uM8 0) (uM9 0)) iX' ++ gM G uM xM0 iM sM ++ gM G uM2 xM20 iM2' sM2' ++ gM G uM3 xM30 iM3' sM3' ++ gM G uM4 xM40 iM4' sM4' ++ gM G uM5 xM50 iM5' sM5' ++ gM G uM6 xM60 iM6' sM6' ++ gM G uM7 xM70 iM7' sM7' ++ gM G uM8 xM80 iM8' sM8' ++ gM G uM9 xM90 iM9' sM9') := by
  refine CV.of (by decide) (Nat.le_of_ble_eq_true rfl) ?_
  intro p e s m args below meth c A X hA hP hD hS ls hl
  have hl : lv_has ls 3 [(0, .ref (uX 0))] := hl
  generalize hQ : MQ below (QV G A (gX G uX xX0 xX1 xX2 (uM 0) xX4 xX7 xX8 xX9 xX10 xX11 xX12 xX13 (kl8 (uM2 0) (uM3 0) (uM4 0) (uM5 0) (uM6 0) (uM7 0) (uM8 0) (uM9 0)) iX' ++ gM G uM xM0 iM sM ++ gM G uM2 xM20 iM2' sM2' ++ gM G uM3 xM30 iM3' sM3' ++ gM G uM4 xM40 iM4' sM4' ++ gM G uM5 xM50 iM5' sM5' ++ gM G uM6 xM60 iM6' sM6' ++ gM G uM7 xM70 iM7' sM7' ++ gM G uM8 xM80 iM8' sM8' ++ gM G uM9 xM90 iM9' sM9')) args s 0 0 A = QQ
  unfold f_X10_keepForUndo_A at hf
  refine lv_aload_n X.hx X.hb dX10_keepForUndo_0 rfl (lv_at hl 0 rfl) ?_
  refine gf_X10_48 X hP 0 (get_blk (L := ([] : va_W)) (g := (gX G uX xX0 xX1 xX2 (uM 0) xX4 xX7 xX8 xX9 xX10 xX11 xX12 xX13 (kl8 (uM2 0) (uM3 0) (uM4 0) (uM5 0) (uM6 0) (uM7 0) (uM8 0) (uM9 0)) iX)) (R := (gM G uM xM0 iM sM ++ gM G uM2 xM20 iM2 sM2 ++ gM G uM3 xM30 iM3 sM3 ++ gM G uM4 xM40 iM4 sM4 ++ gM G uM5 xM50 iM5 sM5 ++ gM G uM6 xM60 iM6 sM6 ++ gM G uM7 xM70 iM7 sM7 ++ gM G uM8 xM80 iM8 sM8 ++ gM G uM9 xM90 iM9 sM9)) (k := 0) (by simp only [List.append_assoc, List.append_nil, List.nil_append]) rfl rfl) (v := .int (iX 6)) rfl dX10_keepForUndo_1 ?_
  refine lv_bipush (v := 8) X.hx X.hb dX10_keepForUndo_4 (by decide) ?_
  refine lv_icmp_lt (tgt := 58) X.hx X.hb dX10_keepForUndo_6 (by decide) (fun _ => ?_) (fun hc => absurd h0 hc)
  refine lv_aload_n X.hx X.hb dX10_keepForUndo_58 rfl (lv_at hl 0 rfl) ?_
  refine gf_X10_44 X hP 0 (get_blk (L := ([] : va_W)) (g := (gX G uX xX0 xX1 xX2 (uM 0) xX4 xX7 xX8 xX9 xX10 xX11 xX12 xX13 (kl8 (uM2 0) (uM3 0) (uM4 0) (uM5 0) (uM6 0) (uM7 0) (uM8 0) (uM9 0)) iX)) (R := (gM G uM xM0 iM sM ++ gM G uM2 xM20 iM2 sM2 ++ gM G uM3 xM30 iM3 sM3 ++ gM G uM4 xM40 iM4 sM4 ++ gM G uM5 xM50 iM5 sM5 ++ gM G uM6 xM60 iM6 sM6 ++ gM G uM7 xM70 iM7 sM7 ++ gM G uM8 xM80 iM8 sM8 ++ gM G uM9 xM90 iM9 sM9)) (k := 0) (by simp only [List.append_assoc, List.append_nil, List.nil_append]) rfl rfl) (v := .ref (uX 6)) rfl dX10_keepForUndo_59 ?_
  refine lv_aload_n X.hx X.hb dX10_keepForUndo_62 rfl (lv_at hl 0 rfl) ?_
  refine gf_X10_48 X hP 0 (get_blk (L := ([] : va_W)) (g := (gX G uX xX0 xX1 xX2 (uM 0) xX4 xX7 xX8 xX9 xX10 xX11 xX12 xX13 (kl8 (uM2 0) (uM3 0) (uM4 0) (uM5 0) (uM6 0) (uM7 0) (uM8 0) (uM9 0)) iX)) (R := (gM G uM xM0 iM sM ++ gM G uM2 xM20 iM2 sM2 ++ gM G uM3 xM30 iM3 sM3 ++ gM G uM4 xM40 iM4 sM4 ++ gM G uM5 xM50 iM5 sM5 ++ gM G uM6 xM60 iM6 sM6 ++ gM G uM7 xM70 iM7 sM7 ++ gM G uM8 xM80 iM8 sM8 ++ gM G uM9 xM90 iM9 sM9)) (k := 0) (by simp only [List.append_assoc, List.append_nil, List.nil_append]) rfl rfl) (v := .int (iX 6)) rfl dX10_keepForUndo_63 ?_
  by_cases hc_1 : (iX 6) = 0
  · replace hf := if_t hf hc_1
    refine r_nm hc_1.symm ?_
    refine va_aldq X.hx X.hb X.hK hP 1 4 (f := (kl8 (uM2 0) (uM3 0) (uM4 0) (uM5 0) (uM6 0) (uM7 0) (uM8 0) (uM9 0))) (get_blk (L := ([] : va_W)) (g := (gX G uX xX0 xX1 xX2 (uM 0) xX4 xX7 xX8 xX9 xX10 xX11 xX12 xX13 (kl8 (uM2 0) (uM3 0) (uM4 0) (uM5 0) (uM6 0) (uM7 0) (uM8 0) (uM9 0)) iX)) (R := (gM G uM xM0 iM sM ++ gM G uM2 xM20 iM2 sM2 ++ gM G uM3 xM30 iM3 sM3 ++ gM G uM4 xM40 iM4 sM4 ++ gM G uM5 xM50 iM5 sM5 ++ gM G uM6 xM60 iM6 sM6 ++ gM G uM7 xM70 iM7 sM7 ++ gM G uM8 xM80 iM8 sM8 ++ gM G uM9 xM90 iM9 sM9)) (k := 1) (by simp only [List.append_assoc, List.append_nil, List.nil_append]) rfl rfl) rfl (i := 0) (vp_c rfl) dX10_keepForUndo_66 ?_
    refine W.eq (g2 := F0 m 67 ls [.ref (uM2 0)]) rfl ?_
    refine lv_aload_n X.hx X.hb dX10_keepForUndo_67 rfl (lv_at hl 0 rfl) ?_
    refine gf_X10_37 X hP 0 (get_blk (L := ([] : va_W)) (g := (gX G uX xX0 xX1 xX2 (uM 0) xX4 xX7 xX8 xX9 xX10 xX11 xX12 xX13 (kl8 (uM2 0) (uM3 0) (uM4 0) (uM5 0) (uM6 0) (uM7 0) (uM8 0) (uM9 0)) iX)) (R := (gM G uM xM0 iM sM ++ gM G uM2 xM20 iM2 sM2 ++ gM G uM3 xM30 iM3 sM3 ++ gM G uM4 xM40 iM4 sM4 ++ gM G uM5 xM50 iM5 sM5 ++ gM G uM6 xM60 iM6 sM6 ++ gM G uM7 xM70 iM7 sM7 ++ gM G uM8 xM80 iM8 sM8 ++ gM G uM9 xM90 iM9 sM9)) (k := 0) (by simp only [List.append_assoc, List.append_nil, List.nil_append]) rfl rfl) (v := .ref (uM 0)) rfl dX10_keepForUndo_68 ?_
    obtain ⟨⟨iM2_2, sM2_3⟩, hc_4, hf⟩ := bd_i hf
    refine r_pvv [gX G uX xX0 xX1 xX2 (uM 0) xX4 xX7 xX8 xX9 xX10 xX11 xX12 xX13 (kl8 (uM2 0) (uM3 0) (uM4 0) (uM5 0) (uM6 0) (uM7 0) (uM8 0) (uM9 0)) iX, gM G uM xM0 iM sM, gM G uM2 xM20 iM2 sM2, gM G uM3 xM30 iM3 sM3, gM G uM4 xM40 iM4 sM4, gM G uM5 xM50 iM5 sM5, gM G uM6 xM60 iM6 sM6, gM G uM7 xM70 iM7 sM7, gM G uM8 xM80 iM8 sM8, gM G uM9 xM90 iM9 sM9] [gX G uX xX0 xX1 xX2 (uM 0) xX4 xX7 xX8 xX9 xX10 xX11 xX12 xX13 (kl8 (uM2 0) (uM3 0) (uM4 0) (uM5 0) (uM6 0) (uM7 0) (uM8 0) (uM9 0)) iX, gM G uM xM0 iM sM, gM G uM2 xM20 iM2_2 sM2_3, gM G uM3 xM30 iM3 sM3, gM G uM4 xM40 iM4 sM4, gM G uM5 xM50 iM5 sM5, gM G uM6 xM60 iM6 sM6, gM G uM7 xM70 iM7 sM7, gM G uM8 xM80 iM8 sM8, gM G uM9 xM90 iM9 sM9] [gM G uM2 xM20 iM2 sM2, gM G uM xM0 iM sM] [gM G uM2 xM20 iM2_2 sM2_3, gM G uM xM0 iM sM] [gX G uX xX0 xX1 xX2 (uM 0) xX4 xX7 xX8 xX9 xX10 xX11 xX12 xX13 (kl8 (uM2 0) (uM3 0) (uM4 0) (uM5 0) (uM6 0) (uM7 0) (uM8 0) (uM9 0)) iX, gM G uM3 xM30 iM3 sM3, gM G uM4 xM40 iM4 sM4, gM G uM5 xM50 iM5 sM5, gM G uM6 xM60 iM6 sM6, gM G uM7 xM70 iM7 sM7, gM G uM8 xM80 iM8 sM8, gM G uM9 xM90 iM9 sM9] 10 [2, 1] [0, 3, 4, 5, 6, 7, 8, 9] (As := [.ref (uM 0)]) (rest := []) X sm_X10_244 (c_X4_copyFrom l G N uM2 uM xM20 xM0 iM2 sM2 iM sM hc_4) hP hD hS hA rfl rfl (by decide) (by simp only [List.flatten_cons, List.flatten_nil, List.append_assoc, List.append_nil]) rfl (by simp only [List.flatten_cons, List.flatten_nil, List.append_assoc, List.append_nil]) rfl (by simp only [List.flatten_cons, List.flatten_nil, List.append_assoc, List.append_nil]) rfl rfl (wo := (gX G uX xX0 xX1 xX2 (uM 0) xX4 xX7 xX8 xX9 xX10 xX11 xX12 xX13 (kl8 (uM2 0) (uM3 0) (uM4 0) (uM5 0) (uM6 0) (uM7 0) (uM8 0) (uM9 0)) iX ++ gM G uM xM0 iM sM ++ gM G uM2 xM20 iM2_2 sM2_3 ++ gM G uM3 xM30 iM3 sM3 ++ gM G uM4 xM40 iM4 sM4 ++ gM G uM5 xM50 iM5 sM5 ++ gM G uM6 xM60 iM6 sM6 ++ gM G uM7 xM70 iM7 sM7 ++ gM G uM8 xM80 iM8 sM8 ++ gM G uM9 xM90 iM9 sM9)) (by simp only [List.flatten_cons, List.flatten_nil, List.append_assoc, List.append_nil]) 0 rfl rfl rfl hl.1 (lv_room (Nat.le_of_ble_eq_true rfl)) ⟨Nat.le_of_ble_eq_true rfl, Nat.le_of_ble_eq_true rfl⟩ ⟨Nat.zero_le _, Nat.zero_le _⟩ dX10_keepForUndo_71 (fun H locs hP hD hS => ?_)
    refine lv_aload_n X.hx X.hb dX10_keepForUndo_74 rfl (lv_at hl 0 rfl) ?_
    refine lv_dup X.hx X.hb dX10_keepForUndo_75 rfl ?_
    refine gf_X10_48 X hP 0 (get_blk (L := ([] : va_W)) (g := (gX G uX xX0 xX1 xX2 (uM 0) xX4 xX7 xX8 xX9 xX10 xX11 xX12 xX13 (kl8 (uM2 0) (uM3 0) (uM4 0) (uM5 0) (uM6 0) (uM7 0) (uM8 0) (uM9 0)) iX)) (R := (gM G uM xM0 iM sM ++ gM G uM2 xM20 iM2_2 sM2_3 ++ gM G uM3 xM30 iM3 sM3 ++ gM G uM4 xM40 iM4 sM4 ++ gM G uM5 xM50 iM5 sM5 ++ gM G uM6 xM60 iM6 sM6 ++ gM G uM7 xM70 iM7 sM7 ++ gM G uM8 xM80 iM8 sM8 ++ gM G uM9 xM90 iM9 sM9)) (k := 0) (by simp only [List.append_assoc, List.append_nil, List.nil_append]) rfl rfl) (v := .int (iX 6)) rfl dX10_keepForUndo_76 ?_
    refine lv_iconst (v := 1) X.hx X.hb dX10_keepForUndo_79 (by decide) ?_
    refine lv_iadd X.hx X.hb dX10_keepForUndo_80 ?_
    refine pf_X10_48 X hP hD hS 0 (get_blk (L := ([] : va_W)) (g := (gX G uX xX0 xX1 xX2 (uM 0) xX4 xX7 xX8 xX9 xX10 xX11 xX12 xX13 (kl8 (uM2 0) (uM3 0) (uM4 0) (uM5 0) (uM6 0) (uM7 0) (uM8 0) (uM9 0)) iX)) (R := (gM G uM xM0 iM sM ++ gM G uM2 xM20 iM2_2 sM2_3 ++ gM G uM3 xM30 iM3 sM3 ++ gM G uM4 xM40 iM4 sM4 ++ gM G uM5 xM50 iM5 sM5 ++ gM G uM6 xM60 iM6 sM6 ++ gM G uM7 xM70 iM7 sM7 ++ gM G uM8 xM80 iM8 sM8 ++ gM G uM9 xM90 iM9 sM9)) (k := 0) (by simp only [List.append_assoc, List.append_nil, List.nil_append]) rfl rfl) rfl rfl (Nat.le_of_ble_eq_true rfl) (wo := (gX G uX xX0 xX1 xX2 (uM 0) xX4 xX7 xX8 xX9 xX10 xX11 xX12 xX13 (kl8 (uM2 0) (uM3 0) (uM4 0) (uM5 0) (uM6 0) (uM7 0) (uM8 0) (uM9 0)) (va_up iX 6 ((iX 6) + 1)) ++ gM G uM xM0 iM sM ++ gM G uM2 xM20 iM2_2 sM2_3 ++ gM G uM3 xM30 iM3 sM3 ++ gM G uM4 xM40 iM4 sM4 ++ gM G uM5 xM50 iM5 sM5 ++ gM G uM6 xM60 iM6 sM6 ++ gM G uM7 xM70 iM7 sM7 ++ gM G uM8 xM80 iM8 sM8 ++ gM G uM9 xM90 iM9 sM9)) (set_blk (L := ([] : va_W)) (g := (gX G uX xX0 xX1 xX2 (uM 0) xX4 xX7 xX8 xX9 xX10 xX11 xX12 xX13 (kl8 (uM2 0) (uM3 0) (uM4 0) (uM5 0) (uM6 0) (uM7 0) (uM8 0) (uM9 0)) iX)) (R := (gM G uM xM0 iM sM ++ gM G uM2 xM20 iM2_2 sM2_3 ++ gM G uM3 xM30 iM3 sM3 ++ gM G uM4 xM40 iM4 sM4 ++ gM G uM5 xM50 iM5 sM5 ++ gM G uM6 xM60 iM6 sM6 ++ gM G uM7 xM70 iM7 sM7 ++ gM G uM8 xM80 iM8 sM8 ++ gM G uM9 xM90 iM9 sM9)) (g' := (gX G uX xX0 xX1 xX2 (uM 0) xX4 xX7 xX8 xX9 xX10 xX11 xX12 xX13 (kl8 (uM2 0) (uM3 0) (uM4 0) (uM5 0) (uM6 0) (uM7 0) (uM8 0) (uM9 0)) (va_up iX 6 ((iX 6) + 1)))) (k := 0) (by simp only [List.append_assoc, List.append_nil, List.nil_append]) rfl (Nat.le_of_ble_eq_true rfl) rfl (by simp only [List.append_assoc, List.append_nil, List.nil_append])) dX10_keepForUndo_81 (fun H locs hP hD hS => ?_)
    cases hf
    subst hQ
    exact r_vret X hP hD hS dX10_keepForUndo_84
  replace hf := if_f hf hc_1
  by_cases hc_5 : (iX 6) = 1
  · replace hf := if_t hf hc_5
    refine r_nm hc_5.symm ?_
    refine va_aldq X.hx X.hb X.hK hP 1 4 (f := (kl8 (uM2 0) (uM3 0) (uM4 0) (uM5 0) (uM6 0) (uM7 0) (uM8 0) (uM9 0))) (get_blk (L := ([] : va_W)) (g := (gX G uX xX0 xX1 xX2 (uM 0) xX4 xX7 xX8 xX9 xX10 xX11 xX12 xX13 (kl8 (uM2 0) (uM3 0) (uM4 0) (uM5 0) (uM6 0) (uM7 0) (uM8 0) (uM9 0)) iX)) (R := (gM G uM xM0 iM sM ++ gM G uM2 xM20 iM2 sM2 ++ gM G uM3 xM30 iM3 sM3 ++ gM G uM4 xM40 iM4 sM4 ++ gM G uM5 xM50 iM5 sM5 ++ gM G uM6 xM60 iM6 sM6 ++ gM G uM7 xM70 iM7 sM7 ++ gM G uM8 xM80 iM8 sM8 ++ gM G uM9 xM90 iM9 sM9)) (k := 1) (by simp only [List.append_assoc, List.append_nil, List.nil_append]) rfl rfl) rfl (i := 1) (vp_c rfl) dX10_keepForUndo_66 ?_
    refine W.eq (g2 := F0 m 67 ls [.ref (uM3 0)]) rfl ?_
    refine lv_aload_n X.hx X.hb dX10_keepForUndo_67 rfl (lv_at hl 0 rfl) ?_
    refine gf_X10_37 X hP 0 (get_blk (L := ([] : va_W)) (g := (gX G uX xX0 xX1 xX2 (uM 0) xX4 xX7 xX8 xX9 xX10 xX11 xX12 xX13 (kl8 (uM2 0) (uM3 0) (uM4 0) (uM5 0) (uM6 0) (uM7 0) (uM8 0) (uM9 0)) iX)) (R := (gM G uM xM0 iM sM ++ gM G uM2 xM20 iM2 sM2 ++ gM G uM3 xM30 iM3 sM3 ++ gM G uM4 xM40 iM4 sM4 ++ gM G uM5 xM50 iM5 sM5 ++ gM G uM6 xM60 iM6 sM6 ++ gM G uM7 xM70 iM7 sM7 ++ gM G uM8 xM80 iM8 sM8 ++ gM G uM9 xM90 iM9 sM9)) (k := 0) (by simp only [List.append_assoc, List.append_nil, List.nil_append]) rfl rfl) (v := .ref (uM 0)) rfl dX10_keepForUndo_68 ?_
    obtain ⟨⟨iM3_6, sM3_7⟩, hc_8, hf⟩ := bd_i hf
    refine r_pvv [gX G uX xX0 xX1 xX2 (uM 0) xX4 xX7 xX8 xX9 xX10 xX11 xX12 xX13 (kl8 (uM2 0) (uM3 0) (uM4 0) (uM5 0) (uM6 0) (uM7 0) (uM8 0) (uM9 0)) iX, gM G uM xM0 iM sM, gM G uM2 xM20 iM2 sM2, gM G uM3 xM30 iM3 sM3, gM G uM4 xM40 iM4 sM4, gM G uM5 xM50 iM5 sM5, gM G uM6 xM60 iM6 sM6, gM G uM7 xM70 iM7 sM7, gM G uM8 xM80 iM8 sM8, gM G uM9 xM90 iM9 sM9] [gX G uX xX0 xX1 xX2 (uM 0) xX4 xX7 xX8 xX9 xX10 xX11 xX12 xX13 (kl8 (uM2 0) (uM3 0) (uM4 0) (uM5 0) (uM6 0) (uM7 0) (uM8 0) (uM9 0)) iX, gM G uM xM0 iM sM, gM G uM2 xM20 iM2 sM2, gM G uM3 xM30 iM3_6 sM3_7, gM G uM4 xM40 iM4 sM4, gM G uM5 xM50 iM5 sM5, gM G uM6 xM60 iM6 sM6, gM G uM7 xM70 iM7 sM7, gM G uM8 xM80 iM8 sM8, gM G uM9 xM90 iM9 sM9] [gM G uM3 xM30 iM3 sM3, gM G uM xM0 iM sM] [gM G uM3 xM30 iM3_6 sM3_7, gM G uM xM0 iM sM] [gX G uX xX0 xX1 xX2 (uM 0) xX4 xX7 xX8 xX9 xX10 xX11 xX12 xX13 (kl8 (uM2 0) (uM3 0) (uM4 0) (uM5 0) (uM6 0) (uM7 0) (uM8 0) (uM9 0)) iX, gM G uM2 xM20 iM2 sM2, gM G uM4 xM40 iM4 sM4, gM G uM5 xM50 iM5 sM5, gM G uM6 xM60 iM6 sM6, gM G uM7 xM70 iM7 sM7, gM G uM8 xM80 iM8 sM8, gM G uM9 xM90 iM9 sM9] 10 [3, 1] [0, 2, 4, 5, 6, 7, 8, 9] (As := [.ref (uM 0)]) (rest := []) X sm_X10_244 (c_X4_copyFrom l G N uM3 uM xM30 xM0 iM3 sM3 iM sM hc_8) hP hD hS hA rfl rfl (by decide) (by simp only [List.flatten_cons, List.flatten_nil, List.append_assoc, List.append_nil]) rfl (by simp only [List.flatten_cons, List.flatten_nil, List.append_assoc, List.append_nil]) rfl (by simp only [List.flatten_cons, List.flatten_nil, List.append_assoc, List.append_nil]) rfl rfl (wo := (gX G uX xX0 xX1 xX2 (uM 0) xX4 xX7 xX8 xX9 xX10 xX11 xX12 xX13 (kl8 (uM2 0) (uM3 0) (uM4 0) (uM5 0) (uM6 0) (uM7 0) (uM8 0) (uM9 0)) iX ++ gM G uM xM0 iM sM ++ gM G uM2 xM20 iM2 sM2 ++ gM G uM3 xM30 iM3_6 sM3_7 ++ gM G uM4 xM40 iM4 sM4 ++ gM G uM5 xM50 iM5 sM5 ++ gM G uM6 xM60 iM6 sM6 ++ gM G uM7 xM70 iM7 sM7 ++ gM G uM8 xM80 iM8 sM8 ++ gM G uM9 xM90 iM9 sM9)) (by simp only [List.flatten_cons, List.flatten_nil, List.append_assoc, List.append_nil]) 0 rfl rfl rfl hl.1 (lv_room (Nat.le_of_ble_eq_true rfl)) ⟨Nat.le_of_ble_eq_true rfl, Nat.le_of_ble_eq_true rfl⟩ ⟨Nat.zero_le _, Nat.zero_le _⟩ dX10_keepForUndo_71 (fun H locs hP hD hS => ?_)
    refine lv_aload_n X.hx X.hb dX10_keepForUndo_74 rfl (lv_at hl 0 rfl) ?_
    refine lv_dup X.hx X.hb dX10_keepForUndo_75 rfl ?_
    refine gf_X10_48 X hP 0 (get_blk (L := ([] : va_W)) (g := (gX G uX xX0 xX1 xX2 (uM 0) xX4 xX7 xX8 xX9 xX10 xX11 xX12 xX13 (kl8 (uM2 0) (uM3 0) (uM4 0) (uM5 0) (uM6 0) (uM7 0) (uM8 0) (uM9 0)) iX)) (R := (gM G uM xM0 iM sM ++ gM G uM2 xM20 iM2 sM2 ++ gM G uM3 xM30 iM3_6 sM3_7 ++ gM G uM4 xM40 iM4 sM4 ++ gM G uM5 xM50 iM5 sM5 ++ gM G uM6 xM60 iM6 sM6 ++ gM G uM7 xM70 iM7 sM7 ++ gM G uM8 xM80 iM8 sM8 ++ gM G uM9 xM90 iM9 sM9)) (k := 0) (by simp only [List.append_assoc, List.append_nil, List.nil_append]) rfl rfl) (v := .int (iX 6)) rfl dX10_keepForUndo_76 ?_
    refine lv_iconst (v := 1) X.hx X.hb dX10_keepForUndo_79 (by decide) ?_
    refine lv_iadd X.hx X.hb dX10_keepForUndo_80 ?_
    refine pf_X10_48 X hP hD hS 0 (get_blk (L := ([] : va_W)) (g := (gX G uX xX0 xX1 xX2 (uM 0) xX4 xX7 xX8 xX9 xX10 xX11 xX12 xX13 (kl8 (uM2 0) (uM3 0) (uM4 0) (uM5 0) (uM6 0) (uM7 0) (uM8 0) (uM9 0)) iX)) (R := (gM G uM xM0 iM sM ++ gM G uM2 xM20 iM2 sM2 ++ gM G uM3 xM30 iM3_6 sM3_7 ++ gM G uM4 xM40 iM4 sM4 ++ gM G uM5 xM50 iM5 sM5 ++ gM G uM6 xM60 iM6 sM6 ++ gM G uM7 xM70 iM7 sM7 ++ gM G uM8 xM80 iM8 sM8 ++ gM G uM9 xM90 iM9 sM9)) (k := 0) (by simp only [List.append_assoc, List.append_nil, List.nil_append]) rfl rfl) rfl rfl (Nat.le_of_ble_eq_true rfl) (wo := (gX G uX xX0 xX1 xX2 (uM 0) xX4 xX7 xX8 xX9 xX10 xX11 xX12 xX13 (kl8 (uM2 0) (uM3 0) (uM4 0) (uM5 0) (uM6 0) (uM7 0) (uM8 0) (uM9 0)) (va_up iX 6 ((iX 6) + 1)) ++ gM G uM xM0 iM sM ++ gM G uM2 xM20 iM2 sM2 ++ gM G uM3 xM30 iM3_6 sM3_7 ++ gM G uM4 xM40 iM4 sM4 ++ gM G uM5 xM50 iM5 sM5 ++ gM G uM6 xM60 iM6 sM6 ++ gM G uM7 xM70 iM7 sM7 ++ gM G uM8 xM80 iM8 sM8 ++ gM G uM9 xM90 iM9 sM9)) (set_blk (L := ([] : va_W)) (g := (gX G uX xX0 xX1 xX2 (uM 0) xX4 xX7 xX8 xX9 xX10 xX11 xX12 xX13 (kl8 (uM2 0) (uM3 0) (uM4 0) (uM5 0) (uM6 0) (uM7 0) (uM8 0) (uM9 0)) iX)) (R := (gM G uM xM0 iM sM ++ gM G uM2 xM20 iM2 sM2 ++ gM G uM3 xM30 iM3_6 sM3_7 ++ gM G uM4 xM40 iM4 sM4 ++ gM G uM5 xM50 iM5 sM5 ++ gM G uM6 xM60 iM6 sM6 ++ gM G uM7 xM70 iM7 sM7 ++ gM G uM8 xM80 iM8 sM8 ++ gM G uM9 xM90 iM9 sM9)) (g' := (gX G uX xX0 xX1 xX2 (uM 0) xX4 xX7 xX8 xX9 xX10 xX11 xX12 xX13 (kl8 (uM2 0) (uM3 0) (uM4 0) (uM5 0) (uM6 0) (uM7 0) (uM8 0) (uM9 0)) (va_up iX 6 ((iX 6) + 1)))) (k := 0) (by simp only [List.append_assoc, List.append_nil, List.nil_append]) rfl (Nat.le_of_ble_eq_true rfl) rfl (by simp only [List.append_assoc, List.append_nil, List.nil_append])) dX10_keepForUndo_81 (fun H locs hP hD hS => ?_)
    cases hf
    subst hQ
    exact r_vret X hP hD hS dX10_keepForUndo_84
  replace hf := if_f hf hc_5
  by_cases hc_9 : (iX 6) = 2
  · replace hf := if_t hf hc_9
    refine r_nm hc_9.symm ?_
    refine va_aldq X.hx X.hb X.hK hP 1 4 (f := (kl8 (uM2 0) (uM3 0) (uM4 0) (uM5 0) (uM6 0) (uM7 0) (uM8 0) (uM9 0))) (get_blk (L := ([] : va_W)) (g := (gX G uX xX0 xX1 xX2 (uM 0) xX4 xX7 xX8 xX9 xX10 xX11 xX12 xX13 (kl8 (uM2 0) (uM3 0) (uM4 0) (uM5 0) (uM6 0) (uM7 0) (uM8 0) (uM9 0)) iX)) (R := (gM G uM xM0 iM sM ++ gM G uM2 xM20 iM2 sM2 ++ gM G uM3 xM30 iM3 sM3 ++ gM G uM4 xM40 iM4 sM4 ++ gM G uM5 xM50 iM5 sM5 ++ gM G uM6 xM60 iM6 sM6 ++ gM G uM7 xM70 iM7 sM7 ++ gM G uM8 xM80 iM8 sM8 ++ gM G uM9 xM90 iM9 sM9)) (k := 1) (by simp only [List.append_assoc, List.append_nil, List.nil_append]) rfl rfl) rfl (i := 2) (vp_c rfl) dX10_keepForUndo_66 ?_
    refine W.eq (g2 := F0 m 67 ls [.ref (uM4 0)]) rfl ?_
    refine lv_aload_n X.hx X.hb dX10_keepForUndo_67 rfl (lv_at hl 0 rfl) ?_
    refine gf_X10_37 X hP 0 (get_blk (L := ([] : va_W)) (g := (gX G uX xX0 xX1 xX2 (uM 0) xX4 xX7 xX8 xX9 xX10 xX11 xX12 xX13 (kl8 (uM2 0) (uM3 0) (uM4 0) (uM5 0) (uM6 0) (uM7 0) (uM8 0) (uM9 0)) iX)) (R := (gM G uM xM0 iM sM ++ gM G uM2 xM20 iM2 sM2 ++ gM G uM3 xM30 iM3 sM3 ++ gM G uM4 xM40 iM4 sM4 ++ gM G uM5 xM50 iM5 sM5 ++ gM G uM6 xM60 iM6 sM6 ++ gM G uM7 xM70 iM7 sM7 ++ gM G uM8 xM80 iM8 sM8 ++ gM G uM9 xM90 iM9 sM9)) (k := 0) (by simp only [List.append_assoc, List.append_nil, List.nil_append]) rfl rfl) (v := .ref (uM 0)) rfl dX10_keepForUndo_68 ?_
    obtain ⟨⟨iM4_10, sM4_11⟩, hc_12, hf⟩ := bd_i hf
    refine r_pvv [gX G uX xX0 xX1 xX2 (uM 0) xX4 xX7 xX8 xX9 xX10 xX11 xX12 xX13 (kl8 (uM2 0) (uM3 0) (uM4 0) (uM5 0) (uM6 0) (uM7 0) (uM8 0) (uM9 0)) iX, gM G uM xM0 iM sM, gM G uM2 xM20 iM2 sM2, gM G uM3 xM30 iM3 sM3, gM G uM4 xM40 iM4 sM4, gM G uM5 xM50 iM5 sM5, gM G uM6 xM60 iM6 sM6, gM G uM7 xM70 iM7 sM7, gM G uM8 xM80 iM8 sM8, gM G uM9 xM90 iM9 sM9] [gX G uX xX0 xX1 xX2 (uM 0) xX4 xX7 xX8 xX9 xX10 xX11 xX12 xX13 (kl8 (uM2 0) (uM3 0) (uM4 0) (uM5 0) (uM6 0) (uM7 0) (uM8 0) (uM9 0)) iX, gM G uM xM0 iM sM, gM G uM2 xM20 iM2 sM2, gM G uM3 xM30 iM3 sM3, gM G uM4 xM40 iM4_10 sM4_11, gM G uM5 xM50 iM5 sM5, gM G uM6 xM60 iM6 sM6, gM G uM7 xM70 iM7 sM7, gM G uM8 xM80 iM8 sM8, gM G uM9 xM90 iM9 sM9] [gM G uM4 xM40 iM4 sM4, gM G uM xM0 iM sM] [gM G uM4 xM40 iM4_10 sM4_11, gM G uM xM0 iM sM] [gX G uX xX0 xX1 xX2 (uM 0) xX4 xX7 xX8 xX9 xX10 xX11 xX12 xX13 (kl8 (uM2 0) (uM3 0) (uM4 0) (uM5 0) (uM6 0) (uM7 0) (uM8 0) (uM9 0)) iX, gM G uM2 xM20 iM2 sM2, gM G uM3 xM30 iM3 sM3, gM G uM5 xM50 iM5 sM5, gM G uM6 xM60 iM6 sM6, gM G uM7 xM70 iM7 sM7, gM G uM8 xM80 iM8 sM8, gM G uM9 xM90 iM9 sM9] 10 [4, 1] [0, 2, 3, 5, 6, 7, 8, 9] (As := [.ref (uM 0)]) (rest := []) X sm_X10_244 (c_X4_copyFrom l G N uM4 uM xM40 xM0 iM4 sM4 iM sM hc_12) hP hD hS hA rfl rfl (by decide) (by simp only [List.flatten_cons, List.flatten_nil, List.append_assoc, List.append_nil]) rfl (by simp only [List.flatten_cons, List.flatten_nil, List.append_assoc, List.append_nil]) rfl (by simp only [List.flatten_cons, List.flatten_nil, List.append_assoc, List.append_nil]) rfl rfl (wo := (gX G uX xX0 xX1 xX2 (uM 0) xX4 xX7 xX8 xX9 xX10 xX11 xX12 xX13 (kl8 (uM2 0) (uM3 0) (uM4 0) (uM5 0) (uM6 0) (uM7 0) (uM8 0) (uM9 0)) iX ++ gM G uM xM0 iM sM ++ gM G uM2 xM20 iM2 sM2 ++ gM G uM3 xM30 iM3 sM3 ++ gM G uM4 xM40 iM4_10 sM4_11 ++ gM G uM5 xM50 iM5 sM5 ++ gM G uM6 xM60 iM6 sM6 ++ gM G uM7 xM70 iM7 sM7 ++ gM G uM8 xM80 iM8 sM8 ++ gM G uM9 xM90 iM9 sM9)) (by simp only [List.flatten_cons, List.flatten_nil, List.append_assoc, List.append_nil]) 0 rfl rfl rfl hl.1 (lv_room (Nat.le_of_ble_eq_true rfl)) ⟨Nat.le_of_ble_eq_true rfl, Nat.le_of_ble_eq_true rfl⟩ ⟨Nat.zero_le _, Nat.zero_le _⟩ dX10_keepForUndo_71 (fun H locs hP hD hS => ?_)
    refine lv_aload_n X.hx X.hb dX10_keepForUndo_74 rfl (lv_at hl 0 rfl) ?_
    refine lv_dup X.hx X.hb dX10_keepForUndo_75 rfl ?_
    refine gf_X10_48 X hP 0 (get_blk (L := ([] : va_W)) (g := (gX G uX xX0 xX1 xX2 (uM 0) xX4 xX7 xX8 xX9 xX10 xX11 xX12 xX13 (kl8 (uM2 0) (uM3 0) (uM4 0) (uM5 0) (uM6 0) (uM7 0) (uM8 0) (uM9 0)) iX)) (R := (gM G uM xM0 iM sM ++ gM G uM2 xM20 iM2 sM2 ++ gM G uM3 xM30 iM3 sM3 ++ gM G uM4 xM40 iM4_10 sM4_11 ++ gM G uM5 xM50 iM5 sM5 ++ gM G uM6 xM60 iM6 sM6 ++ gM G uM7 xM70 iM7 sM7 ++ gM G uM8 xM80 iM8 sM8 ++ gM G uM9 xM90 iM9 sM9)) (k := 0) (by simp only [List.append_assoc, List.append_nil, List.nil_append]) rfl rfl) (v := .int (iX 6)) rfl dX10_keepForUndo_76 ?_
    refine lv_iconst (v := 1) X.hx X.hb dX10_keepForUndo_79 (by decide) ?_
    refine lv_iadd X.hx X.hb dX10_keepForUndo_80 ?_
    refine pf_X10_48 X hP hD hS 0 (get_blk (L := ([] : va_W)) (g := (gX G uX xX0 xX1 xX2 (uM 0) xX4 xX7 xX8 xX9 xX10 xX11 xX12 xX13 (kl8 (uM2 0) (uM3 0) (uM4 0) (uM5 0) (uM6 0) (uM7 0) (uM8 0) (uM9 0)) iX)) (R := (gM G uM xM0 iM sM ++ gM G uM2 xM20 iM2 sM2 ++ gM G uM3 xM30 iM3 sM3 ++ gM G uM4 xM40 iM4_10 sM4_11 ++ gM G uM5 xM50 iM5 sM5 ++ gM G uM6 xM60 iM6 sM6 ++ gM G uM7 xM70 iM7 sM7 ++ gM G uM8 xM80 iM8 sM8 ++ gM G uM9 xM90 iM9 sM9)) (k := 0) (by simp only [List.append_assoc, List.append_nil, List.nil_append]) rfl rfl) rfl rfl (Nat.le_of_ble_eq_true rfl) (wo := (gX G uX xX0 xX1 xX2 (uM 0) xX4 xX7 xX8 xX9 xX10 xX11 xX12 xX13 (kl8 (uM2 0) (uM3 0) (uM4 0) (uM5 0) (uM6 0) (uM7 0) (uM8 0) (uM9 0)) (va_up iX 6 ((iX 6) + 1)) ++ gM G uM xM0 iM sM ++ gM G uM2 xM20 iM2 sM2 ++ gM G uM3 xM30 iM3 sM3 ++ gM G uM4 xM40 iM4_10 sM4_11 ++ gM G uM5 xM50 iM5 sM5 ++ gM G uM6 xM60 iM6 sM6 ++ gM G uM7 xM70 iM7 sM7 ++ gM G uM8 xM80 iM8 sM8 ++ gM G uM9 xM90 iM9 sM9)) (set_blk (L := ([] : va_W)) (g := (gX G uX xX0 xX1 xX2 (uM 0) xX4 xX7 xX8 xX9 xX10 xX11 xX12 xX13 (kl8 (uM2 0) (uM3 0) (uM4 0) (uM5 0) (uM6 0) (uM7 0) (uM8 0) (uM9 0)) iX)) (R := (gM G uM xM0 iM sM ++ gM G uM2 xM20 iM2 sM2 ++ gM G uM3 xM30 iM3 sM3 ++ gM G uM4 xM40 iM4_10 sM4_11 ++ gM G uM5 xM50 iM5 sM5 ++ gM G uM6 xM60 iM6 sM6 ++ gM G uM7 xM70 iM7 sM7 ++ gM G uM8 xM80 iM8 sM8 ++ gM G uM9 xM90 iM9 sM9)) (g' := (gX G uX xX0 xX1 xX2 (uM 0) xX4 xX7 xX8 xX9 xX10 xX11 xX12 xX13 (kl8 (uM2 0) (uM3 0) (uM4 0) (uM5 0) (uM6 0) (uM7 0) (uM8 0) (uM9 0)) (va_up iX 6 ((iX 6) + 1)))) (k := 0) (by simp only [List.append_assoc, List.append_nil, List.nil_append]) rfl (Nat.le_of_ble_eq_true rfl) rfl (by simp only [List.append_assoc, List.append_nil, List.nil_append])) dX10_keepForUndo_81 (fun H locs hP hD hS => ?_)
    cases hf
    subst hQ
    exact r_vret X hP hD hS dX10_keepForUndo_84
  replace hf := if_f hf hc_9
  by_cases hc_13 : (iX 6) = 3
  · replace hf := if_t hf hc_13
    refine r_nm hc_13.symm ?_
    refine va_aldq X.hx X.hb X.hK hP 1 4 (f := (kl8 (uM2 0) (uM3 0) (uM4 0) (uM5 0) (uM6 0) (uM7 0) (uM8 0) (uM9 0))) (get_blk (L := ([] : va_W)) (g := (gX G uX xX0 xX1 xX2 (uM 0) xX4 xX7 xX8 xX9 xX10 xX11 xX12 xX13 (kl8 (uM2 0) (uM3 0) (uM4 0) (uM5 0) (uM6 0) (uM7 0) (uM8 0) (uM9 0)) iX)) (R := (gM G uM xM0 iM sM ++ gM G uM2 xM20 iM2 sM2 ++ gM G uM3 xM30 iM3 sM3 ++ gM G uM4 xM40 iM4 sM4 ++ gM G uM5 xM50 iM5 sM5 ++ gM G uM6 xM60 iM6 sM6 ++ gM G uM7 xM70 iM7 sM7 ++ gM G uM8 xM80 iM8 sM8 ++ gM G uM9 xM90 iM9 sM9)) (k := 1) (by simp only [List.append_assoc, List.append_nil, List.nil_append]) rfl rfl) rfl (i := 3) (vp_c rfl) dX10_keepForUndo_66 ?_
    refine W.eq (g2 := F0 m 67 ls [.ref (uM5 0)]) rfl ?_
    refine lv_aload_n X.hx X.hb dX10_keepForUndo_67 rfl (lv_at hl 0 rfl) ?_
    refine gf_X10_37 X hP 0 (get_blk (L := ([] : va_W)) (g := (gX G uX xX0 xX1 xX2 (uM 0) xX4 xX7 xX8 xX9 xX10 xX11 xX12 xX13 (kl8 (uM2 0) (uM3 0) (uM4 0) (uM5 0) (uM6 0) (uM7 0) (uM8 0) (uM9 0)) iX)) (R := (gM G uM xM0 iM sM ++ gM G uM2 xM20 iM2 sM2 ++ gM G uM3 xM30 iM3 sM3 ++ gM G uM4 xM40 iM4 sM4 ++ gM G uM5 xM50 iM5 sM5 ++ gM G uM6 xM60 iM6 sM6 ++ gM G uM7 xM70 iM7 sM7 ++ gM G uM8 xM80 iM8 sM8 ++ gM G uM9 xM90 iM9 sM9)) (k := 0) (by simp only [List.append_assoc, List.append_nil, List.nil_append]) rfl rfl) (v := .ref (uM 0)) rfl dX10_keepForUndo_68 ?_
    obtain ⟨⟨iM5_14, sM5_15⟩, hc_16, hf⟩ := bd_i hf
    refine r_pvv [gX G uX xX0 xX1 xX2 (uM 0) xX4 xX7 xX8 xX9 xX10 xX11 xX12 xX13 (kl8 (uM2 0) (uM3 0) (uM4 0) (uM5 0) (uM6 0) (uM7 0) (uM8 0) (uM9 0)) iX, gM G uM xM0 iM sM, gM G uM2 xM20 iM2 sM2, gM G uM3 xM30 iM3 sM3, gM G uM4 xM40 iM4 sM4, gM G uM5 xM50 iM5 sM5, gM G uM6 xM60 iM6 sM6, gM G uM7 xM70 iM7 sM7, gM G uM8 xM80 iM8 sM8, gM G uM9 xM90 iM9 sM9] [gX G uX xX0 xX1 xX2 (uM 0) xX4 xX7 xX8 xX9 xX10 xX11 xX12 xX13 (kl8 (uM2 0) (uM3 0) (uM4 0) (uM5 0) (uM6 0) (uM7 0) (uM8 0) (uM9 0)) iX, gM G uM xM0 iM sM, gM G uM2 xM20 iM2 sM2, gM G uM3 xM30 iM3 sM3, gM G uM4 xM40 iM4 sM4, gM G uM5 xM50 iM5_14 sM5_15, gM G uM6 xM60 iM6 sM6, gM G uM7 xM70 iM7 sM7, gM G uM8 xM80 iM8 sM8, gM G uM9 xM90 iM9 sM9] [gM G uM5 xM50 iM5 sM5, gM G uM xM0 iM sM] [gM G uM5 xM50 iM5_14 sM5_15, gM G uM xM0 iM sM] [gX G uX xX0 xX1 xX2 (uM 0) xX4 xX7 xX8 xX9 xX10 xX11 xX12 xX13 (kl8 (uM2 0) (uM3 0) (uM4 0) (uM5 0) (uM6 0) (uM7 0) (uM8 0) (uM9 0)) iX, gM G uM2 xM20 iM2 sM2, gM G uM3 xM30 iM3 sM3, gM G uM4 xM40 iM4 sM4, gM G uM6 xM60 iM6 sM6, gM G uM7 xM70 iM7 sM7, gM G uM8 xM80 iM8 sM8, gM G uM9 xM90 iM9 sM9] 10 [5, 1] [0, 2, 3, 4, 6, 7, 8, 9] (As := [.ref (uM 0)]) (rest := []) X sm_X10_244 (c_X4_copyFrom l G N uM5 uM xM50 xM0 iM5 sM5 iM sM hc_16) hP hD hS hA rfl rfl (by decide) (by simp only [List.flatten_cons, List.flatten_nil, List.append_assoc, List.append_nil]) rfl (by simp only [List.flatten_cons, List.flatten_nil, List.append_assoc, List.append_nil]) rfl (by simp only [List.flatten_cons, List.flatten_nil, List.append_assoc, List.append_nil]) rfl rfl (wo := (gX G uX xX0 xX1 xX2 (uM 0) xX4 xX7 xX8 xX9 xX10 xX11 xX12 xX13 (kl8 (uM2 0) (uM3 0) (uM4 0) (uM5 0) (uM6 0) (uM7 0) (uM8 0) (uM9 0)) iX ++ gM G uM xM0 iM sM ++ gM G uM2 xM20 iM2 sM2 ++ gM G uM3 xM30 iM3 sM3 ++ gM G uM4 xM40 iM4 sM4 ++ gM G uM5 xM50 iM5_14 sM5_15 ++ gM G uM6 xM60 iM6 sM6 ++ gM G uM7 xM70 iM7 sM7 ++ gM G uM8 xM80 iM8 sM8 ++ gM G uM9 xM90 iM9 sM9)) (by simp only [List.flatten_cons, List.flatten_nil, List.append_assoc, List.append_nil]) 0 rfl rfl rfl hl.1 (lv_room (Nat.le_of_ble_eq_true rfl)) ⟨Nat.le_of_ble_eq_true rfl, Nat.le_of_ble_eq_true rfl⟩ ⟨Nat.zero_le _, Nat.zero_le _⟩ dX10_keepForUndo_71 (fun H locs hP hD hS => ?_)
    refine lv_aload_n X.hx X.hb dX10_keepForUndo_74 rfl (lv_at hl 0 rfl) ?_
    refine lv_dup X.hx X.hb dX10_keepForUndo_75 rfl ?_
    refine gf_X10_48 X hP 0 (get_blk (L := ([] : va_W)) (g := (gX G uX xX0 xX1 xX2 (uM 0) xX4 xX7 xX8 xX9 xX10 xX11 xX12 xX13 (kl8 (uM2 0) (uM3 0) (uM4 0) (uM5 0) (uM6 0) (uM7 0) (uM8 0) (uM9 0)) iX)) (R := (gM G uM xM0 iM sM ++ gM G uM2 xM20 iM2 sM2 ++ gM G uM3 xM30 iM3 sM3 ++ gM G uM4 xM40 iM4 sM4 ++ gM G uM5 xM50 iM5_14 sM5_15 ++ gM G uM6 xM60 iM6 sM6 ++ gM G uM7 xM70 iM7 sM7 ++ gM G uM8 xM80 iM8 sM8 ++ gM G uM9 xM90 iM9 sM9)) (k := 0) (by simp only [List.append_assoc, List.append_nil, List.nil_append]) rfl rfl) (v := .int (iX 6)) rfl dX10_keepForUndo_76 ?_
    refine lv_iconst (v := 1) X.hx X.hb dX10_keepForUndo_79 (by decide) ?_
    refine lv_iadd X.hx X.hb dX10_keepForUndo_80 ?_
    refine pf_X10_48 X hP hD hS 0 (get_blk (L := ([] : va_W)) (g := (gX G uX xX0 xX1 xX2 (uM 0) xX4 xX7 xX8 xX9 xX10 xX11 xX12 xX13 (kl8 (uM2 0) (uM3 0) (uM4 0) (uM5 0) (uM6 0) (uM7 0) (uM8 0) (uM9 0)) iX)) (R := (gM G uM xM0 iM sM ++ gM G uM2 xM20 iM2 sM2 ++ gM G uM3 xM30 iM3 sM3 ++ gM G uM4 xM40 iM4 sM4 ++ gM G uM5 xM50 iM5_14 sM5_15 ++ gM G uM6 xM60 iM6 sM6 ++ gM G uM7 xM70 iM7 sM7 ++ gM G uM8 xM80 iM8 sM8 ++ gM G uM9 xM90 iM9 sM9)) (k := 0) (by simp only [List.append_assoc, List.append_nil, List.nil_append]) rfl rfl) rfl rfl (Nat.le_of_ble_eq_true rfl) (wo := (gX G uX xX0 xX1 xX2 (uM 0) xX4 xX7 xX8 xX9 xX10 xX11 xX12 xX13 (kl8 (uM2 0) (uM3 0) (uM4 0) (uM5 0) (uM6 0) (uM7 0) (uM8 0) (uM9 0)) (va_up iX 6 ((iX 6) + 1)) ++ gM G uM xM0 iM sM ++ gM G uM2 xM20 iM2 sM2 ++ gM G uM3 xM30 iM3 sM3 ++ gM G uM4 xM40 iM4 sM4 ++ gM G uM5 xM50 iM5_14 sM5_15 ++ gM G uM6 xM60 iM6 sM6 ++ gM G uM7 xM70 iM7 sM7 ++ gM G uM8 xM80 iM8 sM8 ++ gM G uM9 xM90 iM9 sM9)) (set_blk (L := ([] : va_W)) (g := (gX G uX xX0 xX1 xX2 (uM 0) xX4 xX7 xX8 xX9 xX10 xX11 xX12 xX13 (kl8 (uM2 0) (uM3 0) (uM4 0) (uM5 0) (uM6 0) (uM7 0) (uM8 0) (uM9 0)) iX)) (R := (gM G uM xM0 iM sM ++ gM G uM2 xM20 iM2 sM2 ++ gM G uM3 xM30 iM3 sM3 ++ gM G uM4 xM40 iM4 sM4 ++ gM G uM5 xM50 iM5_14 sM5_15 ++ gM G uM6 xM60 iM6 sM6 ++ gM G uM7 xM70 iM7 sM7 ++ gM G uM8 xM80 iM8 sM8 ++ gM G uM9 xM90 iM9 sM9)) (g' := (gX G uX xX0 xX1 xX2 (uM 0) xX4 xX7 xX8 xX9 xX10 xX11 xX12 xX13 (kl8 (uM2 0) (uM3 0) (uM4 0) (uM5 0) (uM6 0) (uM7 0) (uM8 0) (uM9 0)) (va_up iX 6 ((iX 6) + 1)))) (k := 0) (by simp only [List.append_assoc, List.append_nil, List.nil_append]) rfl (Nat.le_of_ble_eq_true rfl) rfl (by simp only [List.append_assoc, List.append_nil, List.nil_append])) dX10_keepForUndo_81 (fun H locs hP hD hS => ?_)
    cases hf
    subst hQ
    exact r_vret X hP hD hS dX10_keepForUndo_84
  replace hf := if_f hf hc_13
  by_cases hc_17 : (iX 6) = 4
  · replace hf := if_t hf hc_17
    refine r_nm hc_17.symm ?_
    refine va_aldq X.hx X.hb X.hK hP 1 4 (f := (kl8 (uM2 0) (uM3 0) (uM4 0) (uM5 0) (uM6 0) (uM7 0) (uM8 0) (uM9 0))) (get_blk (L := ([] : va_W)) (g := (gX G uX xX0 xX1 xX2 (uM 0) xX4 xX7 xX8 xX9 xX10 xX11 xX12 xX13 (kl8 (uM2 0) (uM3 0) (uM4 0) (uM5 0) (uM6 0) (uM7 0) (uM8 0) (uM9 0)) iX)) (R := (gM G uM xM0 iM sM ++ gM G uM2 xM20 iM2 sM2 ++ gM G uM3 xM30 iM3 sM3 ++ gM G uM4 xM40 iM4 sM4 ++ gM G uM5 xM50 iM5 sM5 ++ gM G uM6 xM60 iM6 sM6 ++ gM G uM7 xM70 iM7 sM7 ++ gM G uM8 xM80 iM8 sM8 ++ gM G uM9 xM90 iM9 sM9)) (k := 1) (by simp only [List.append_assoc, List.append_nil, List.nil_append]) rfl rfl) rfl (i := 4) (vp_c rfl) dX10_keepForUndo_66 ?_
    refine W.eq (g2 := F0 m 67 ls [.ref (uM6 0)]) rfl ?_
    refine lv_aload_n X.hx X.hb dX10_keepForUndo_67 rfl (lv_at hl 0 rfl) ?_
    refine gf_X10_37 X hP 0 (get_blk (L := ([] : va_W)) (g := (gX G uX xX0 xX1 xX2 (uM 0) xX4 xX7 xX8 xX9 xX10 xX11 xX12 xX13 (kl8 (uM2 0) (uM3 0) (uM4 0) (uM5 0) (uM6 0) (uM7 0) (uM8 0) (uM9 0)) iX)) (R := (gM G uM xM0 iM sM ++ gM G uM2 xM20 iM2 sM2 ++ gM G uM3 xM30 iM3 sM3 ++ gM G uM4 xM40 iM4 sM4 ++ gM G uM5 xM50 iM5 sM5 ++ gM G uM6 xM60 iM6 sM6 ++ gM G uM7 xM70 iM7 sM7 ++ gM G uM8 xM80 iM8 sM8 ++ gM G uM9 xM90 iM9 sM9)) (k := 0) (by simp only [List.append_assoc, List.append_nil, List.nil_append]) rfl rfl) (v := .ref (uM 0)) rfl dX10_keepForUndo_68 ?_
    obtain ⟨⟨iM6_18, sM6_19⟩, hc_20, hf⟩ := bd_i hf
    refine r_pvv [gX G uX xX0 xX1 xX2 (uM 0) xX4 xX7 xX8 xX9 xX10 xX11 xX12 xX13 (kl8 (uM2 0) (uM3 0) (uM4 0) (uM5 0) (uM6 0) (uM7 0) (uM8 0) (uM9 0)) iX, gM G uM xM0 iM sM, gM G uM2 xM20 iM2 sM2, gM G uM3 xM30 iM3 sM3, gM G uM4 xM40 iM4 sM4, gM G uM5 xM50 iM5 sM5, gM G uM6 xM60 iM6 sM6, gM G uM7 xM70 iM7 sM7, gM G uM8 xM80 iM8 sM8, gM G uM9 xM90 iM9 sM9] [gX G uX xX0 xX1 xX2 (uM 0) xX4 xX7 xX8 xX9 xX10 xX11 xX12 xX13 (kl8 (uM2 0) (uM3 0) (uM4 0) (uM5 0) (uM6 0) (uM7 0) (uM8 0) (uM9 0)) iX, gM G uM xM0 iM sM, gM G uM2 xM20 iM2 sM2, gM G uM3 xM30 iM3 sM3, gM G uM4 xM40 iM4 sM4, gM G uM5 xM50 iM5 sM5, gM G uM6 xM60 iM6_18 sM6_19, gM G uM7 xM70 iM7 sM7, gM G uM8 xM80 iM8 sM8, gM G uM9 xM90 iM9 sM9] [gM G uM6 xM60 iM6 sM6, gM G uM xM0 iM sM] [gM G uM6 xM60 iM6_18 sM6_19, gM G uM xM0 iM sM] [gX G uX xX0 xX1 xX2 (uM 0) xX4 xX7 xX8 xX9 xX10 xX11 xX12 xX13 (kl8 (uM2 0) (uM3 0) (uM4 0) (uM5 0) (uM6 0) (uM7 0) (uM8 0) (uM9 0)) iX, gM G uM2 xM20 iM2 sM2, gM G uM3 xM30 iM3 sM3, gM G uM4 xM40 iM4 sM4, gM G uM5 xM50 iM5 sM5, gM G uM7 xM70 iM7 sM7, gM G uM8 xM80 iM8 sM8, gM G uM9 xM90 iM9 sM9] 10 [6, 1] [0, 2, 3, 4, 5, 7, 8, 9] (As := [.ref (uM 0)]) (rest := []) X sm_X10_244 (c_X4_copyFrom l G N uM6 uM xM60 xM0 iM6 sM6 iM sM hc_20) hP hD hS hA rfl rfl (by decide) (by simp only [List.flatten_cons, List.flatten_nil, List.append_assoc, List.append_nil]) rfl (by simp only [List.flatten_cons, List.flatten_nil, List.append_assoc, List.append_nil]) rfl (by simp only [List.flatten_cons, List.flatten_nil, List.append_assoc, List.append_nil]) rfl rfl (wo := (gX G uX xX0 xX1 xX2 (uM 0) xX4 xX7 xX8 xX9 xX10 xX11 xX12 xX13 (kl8 (uM2 0) (uM3 0) (uM4 0) (uM5 0) (uM6 0) (uM7 0) (uM8 0) (uM9 0)) iX ++ gM G uM xM0 iM sM ++ gM G uM2 xM20 iM2 sM2 ++ gM G uM3 xM30 iM3 sM3 ++ gM G uM4 xM40 iM4 sM4 ++ gM G uM5 xM50 iM5 sM5 ++ gM G uM6 xM60 iM6_18 sM6_19 ++ gM G uM7 xM70 iM7 sM7 ++ gM G uM8 xM80 iM8 sM8 ++ gM G uM9 xM90 iM9 sM9)) (by simp only [List.flatten_cons, List.flatten_nil, List.append_assoc, List.append_nil]) 0 rfl rfl rfl hl.1 (lv_room (Nat.le_of_ble_eq_true rfl)) ⟨Nat.le_of_ble_eq_true rfl, Nat.le_of_ble_eq_true rfl⟩ ⟨Nat.zero_le _, Nat.zero_le _⟩ dX10_keepForUndo_71 (fun H locs hP hD hS => ?_)
    refine lv_aload_n X.hx X.hb dX10_keepForUndo_74 rfl (lv_at hl 0 rfl) ?_
    refine lv_dup X.hx X.hb dX10_keepForUndo_75 rfl ?_
    refine gf_X10_48 X hP 0 (get_blk (L := ([] : va_W)) (g := (gX G uX xX0 xX1 xX2 (uM 0) xX4 xX7 xX8 xX9 xX10 xX11 xX12 xX13 (kl8 (uM2 0) (uM3 0) (uM4 0) (uM5 0) (uM6 0) (uM7 0) (uM8 0) (uM9 0)) iX)) (R := (gM G uM xM0 iM sM ++ gM G uM2 xM20 iM2 sM2 ++ gM G uM3 xM30 iM3 sM3 ++ gM G uM4 xM40 iM4 sM4 ++ gM G uM5 xM50 iM5 sM5 ++ gM G uM6 xM60 iM6_18 sM6_19 ++ gM G uM7 xM70 iM7 sM7 ++ gM G uM8 xM80 iM8 sM8 ++ gM G uM9 xM90 iM9 sM9)) (k := 0) (by simp only [List.append_assoc, List.append_nil, List.nil_append]) rfl rfl) (v := .int (iX 6)) rfl dX10_keepForUndo_76 ?_
    refine lv_iconst (v := 1) X.hx X.hb dX10_keepForUndo_79 (by decide) ?_
    refine lv_iadd X.hx X.hb dX10_keepForUndo_80 ?_
    refine pf_X10_48 X hP hD hS 0 (get_blk (L := ([] : va_W)) (g := (gX G uX xX0 xX1 xX2 (uM 0) xX4 xX7 xX8 xX9 xX10 xX11 xX12 xX13 (kl8 (uM2 0) (uM3 0) (uM4 0) (uM5 0) (uM6 0) (uM7 0) (uM8 0) (uM9 0)) iX)) (R := (gM G uM xM0 iM sM ++ gM G uM2 xM20 iM2 sM2 ++ gM G uM3 xM30 iM3 sM3 ++ gM G uM4 xM40 iM4 sM4 ++ gM G uM5 xM50 iM5 sM5 ++ gM G uM6 xM60 iM6_18 sM6_19 ++ gM G uM7 xM70 iM7 sM7 ++ gM G uM8 xM80 iM8 sM8 ++ gM G uM9 xM90 iM9 sM9)) (k := 0) (by simp only [List.append_assoc, List.append_nil, List.nil_append]) rfl rfl) rfl rfl (Nat.le_of_ble_eq_true rfl) (wo := (gX G uX xX0 xX1 xX2 (uM 0) xX4 xX7 xX8 xX9 xX10 xX11 xX12 xX13 (kl8 (uM2 0) (uM3 0) (uM4 0) (uM5 0) (uM6 0) (uM7 0) (uM8 0) (uM9 0)) (va_up iX 6 ((iX 6) + 1)) ++ gM G uM xM0 iM sM ++ gM G uM2 xM20 iM2 sM2 ++ gM G uM3 xM30 iM3 sM3 ++ gM G uM4 xM40 iM4 sM4 ++ gM G uM5 xM50 iM5 sM5 ++ gM G uM6 xM60 iM6_18 sM6_19 ++ gM G uM7 xM70 iM7 sM7 ++ gM G uM8 xM80 iM8 sM8 ++ gM G uM9 xM90 iM9 sM9)) (set_blk (L := ([] : va_W)) (g := (gX G uX xX0 xX1 xX2 (uM 0) xX4 xX7 xX8 xX9 xX10 xX11 xX12 xX13 (kl8 (uM2 0) (uM3 0) (uM4 0) (uM5 0) (uM6 0) (uM7 0) (uM8 0) (uM9 0)) iX)) (R := (gM G uM xM0 iM sM ++ gM G uM2 xM20 iM2 sM2 ++ gM G uM3 xM30 iM3 sM3 ++ gM G uM4 xM40 iM4 sM4 ++ gM G uM5 xM50 iM5 sM5 ++ gM G uM6 xM60 iM6_18 sM6_19 ++ gM G uM7 xM70 iM7 sM7 ++ gM G uM8 xM80 iM8 sM8 ++ gM G uM9 xM90 iM9 sM9)) (g' := (gX G uX xX0 xX1 xX2 (uM 0) xX4 xX7 xX8 xX9 xX10 xX11 xX12 xX13 (kl8 (uM2 0) (uM3 0) (uM4 0) (uM5 0) (uM6 0) (uM7 0) (uM8 0) (uM9 0)) (va_up iX 6 ((iX 6) + 1)))) (k := 0) (by simp only [List.append_assoc, List.append_nil, List.nil_append]) rfl (Nat.le_of_ble_eq_true rfl) rfl (by simp only [List.append_assoc, List.append_nil, List.nil_append])) dX10_keepForUndo_81 (fun H locs hP hD hS => ?_)
    cases hf
    subst hQ
    exact r_vret X hP hD hS dX10_keepForUndo_84
  replace hf := if_f hf hc_17
  by_cases hc_21 : (iX 6) = 5
  · replace hf := if_t hf hc_21
    refine r_nm hc_21.symm ?_
    refine va_aldq X.hx X.hb X.hK hP 1 4 (f := (kl8 (uM2 0) (uM3 0) (uM4 0) (uM5 0) (uM6 0) (uM7 0) (uM8 0) (uM9 0))) (get_blk (L := ([] : va_W)) (g := (gX G uX xX0 xX1 xX2 (uM 0) xX4 xX7 xX8 xX9 xX10 xX11 xX12 xX13 (kl8 (uM2 0) (uM3 0) (uM4 0) (uM5 0) (uM6 0) (uM7 0) (uM8 0) (uM9 0)) iX)) (R := (gM G uM xM0 iM sM ++ gM G uM2 xM20 iM2 sM2 ++ gM G uM3 xM30 iM3 sM3 ++ gM G uM4 xM40 iM4 sM4 ++ gM G uM5 xM50 iM5 sM5 ++ gM G uM6 xM60 iM6 sM6 ++ gM G uM7 xM70 iM7 sM7 ++ gM G uM8 xM80 iM8 sM8 ++ gM G uM9 xM90 iM9 sM9)) (k := 1) (by simp only [List.append_assoc, List.append_nil, List.nil_append]) rfl rfl) rfl (i := 5) (vp_c rfl) dX10_keepForUndo_66 ?_
    refine W.eq (g2 := F0 m 67 ls [.ref (uM7 0)]) rfl ?_
    refine lv_aload_n X.hx X.hb dX10_keepForUndo_67 rfl (lv_at hl 0 rfl) ?_
    refine gf_X10_37 X hP 0 (get_blk (L := ([] : va_W)) (g := (gX G uX xX0 xX1 xX2 (uM 0) xX4 xX7 xX8 xX9 xX10 xX11 xX12 xX13 (kl8 (uM2 0) (uM3 0) (uM4 0) (uM5 0) (uM6 0) (uM7 0) (uM8 0) (uM9 0)) iX)) (R := (gM G uM xM0 iM sM ++ gM G uM2 xM20 iM2 sM2 ++ gM G uM3 xM30 iM3 sM3 ++ gM G uM4 xM40 iM4 sM4 ++ gM G uM5 xM50 iM5 sM5 ++ gM G uM6 xM60 iM6 sM6 ++ gM G uM7 xM70 iM7 sM7 ++ gM G uM8 xM80 iM8 sM8 ++ gM G uM9 xM90 iM9 sM9)) (k := 0) (by simp only [List.append_assoc, List.append_nil, List.nil_append]) rfl rfl) (v := .ref (uM 0)) rfl dX10_keepForUndo_68 ?_
    obtain ⟨⟨iM7_22, sM7_23⟩, hc_24, hf⟩ := bd_i hf
    refine r_pvv [gX G uX xX0 xX1 xX2 (uM 0) xX4 xX7 xX8 xX9 xX10 xX11 xX12 xX13 (kl8 (uM2 0) (uM3 0) (uM4 0) (uM5 0) (uM6 0) (uM7 0) (uM8 0) (uM9 0)) iX, gM G uM xM0 iM sM, gM G uM2 xM20 iM2 sM2, gM G uM3 xM30 iM3 sM3, gM G uM4 xM40 iM4 sM4, gM G uM5 xM50 iM5 sM5, gM G uM6 xM60 iM6 sM6, gM G uM7 xM70 iM7 sM7, gM G uM8 xM80 iM8 sM8, gM G uM9 xM90 iM9 sM9] [gX G uX xX0 xX1 xX2 (uM 0) xX4 xX7 xX8 xX9 xX10 xX11 xX12 xX13 (kl8 (uM2 0) (uM3 0) (uM4 0) (uM5 0) (uM6 0) (uM7 0) (uM8 0) (uM9 0)) iX, gM G uM xM0 iM sM, gM G uM2 xM20 iM2 sM2, gM G uM3 xM30 iM3 sM3, gM G uM4 xM40 iM4 sM4, gM G uM5 xM50 iM5 sM5, gM G uM6 xM60 iM6 sM6, gM G uM7 xM70 iM7_22 sM7_23, gM G uM8 xM80 iM8 sM8, gM G uM9 xM90 iM9 sM9] [gM G uM7 xM70 iM7 sM7, gM G uM xM0 iM sM] [gM G uM7 xM70 iM7_22 sM7_23, gM G uM xM0 iM sM] [gX G uX xX0 xX1 xX2 (uM 0) xX4 xX7 xX8 xX9 xX10 xX11 xX12 xX13 (kl8 (uM2 0) (uM3 0) (uM4 0) (uM5 0) (uM6 0) (uM7 0) (uM8 0) (uM9 0)) iX, gM G uM2 xM20 iM2 sM2, gM G uM3 xM30 iM3 sM3, gM G uM4 xM40 iM4 sM4, gM G uM5 xM50 iM5 sM5, gM G uM6 xM60 iM6 sM6, gM G uM8 xM80 iM8 sM8, gM G uM9 xM90 iM9 sM9] 10 [7, 1] [0, 2, 3, 4, 5, 6, 8, 9] (As := [.ref (uM 0)]) (rest := []) X sm_X10_244 (c_X4_copyFrom l G N uM7 uM xM70 xM0 iM7 sM7 iM sM hc_24) hP hD hS hA rfl rfl (by decide) (by simp only [List.flatten_cons, List.flatten_nil, List.append_assoc, List.append_nil]) rfl (by simp only [List.flatten_cons, List.flatten_nil, List.append_assoc, List.append_nil]) rfl (by simp only [List.flatten_cons, List.flatten_nil, List.append_assoc, List.append_nil]) rfl rfl (wo := (gX G uX xX0 xX1 xX2 (uM 0) xX4 xX7 xX8 xX9 xX10 xX11 xX12 xX13 (kl8 (uM2 0) (uM3 0) (uM4 0) (uM5 0) (uM6 0) (uM7 0) (uM8 0) (uM9 0)) iX ++ gM G uM xM0 iM sM ++ gM G uM2 xM20 iM2 sM2 ++ gM G uM3 xM30 iM3 sM3 ++ gM G uM4 xM40 iM4 sM4 ++ gM G uM5 xM50 iM5 sM5 ++ gM G uM6 xM60 iM6 sM6 ++ gM G uM7 xM70 iM7_22 sM7_23 ++ gM G uM8 xM80 iM8 sM8 ++ gM G uM9 xM90 iM9 sM9)) (by simp only [List.flatten_cons, List.flatten_nil, List.append_assoc, List.append_nil]) 0 rfl rfl rfl hl.1 (lv_room (Nat.le_of_ble_eq_true rfl)) ⟨Nat.le_of_ble_eq_true rfl, Nat.le_of_ble_eq_true rfl⟩ ⟨Nat.zero_le _, Nat.zero_le _⟩ dX10_keepForUndo_71 (fun H locs hP hD hS => ?_)
    refine lv_aload_n X.hx X.hb dX10_keepForUndo_74 rfl (lv_at hl 0 rfl) ?_
    refine lv_dup X.hx X.hb dX10_keepForUndo_75 rfl ?_
    refine gf_X10_48 X hP 0 (get_blk (L := ([] : va_W)) (g := (gX G uX xX0 xX1 xX2 (uM 0) xX4 xX7 xX8 xX9 xX10 xX11 xX12 xX13 (kl8 (uM2 0) (uM3 0) (uM4 0) (uM5 0) (uM6 0) (uM7 0) (uM8 0) (uM9 0)) iX)) (R := (gM G uM xM0 iM sM ++ gM G uM2 xM20 iM2 sM2 ++ gM G uM3 xM30 iM3 sM3 ++ gM G uM4 xM40 iM4 sM4 ++ gM G uM5 xM50 iM5 sM5 ++ gM G uM6 xM60 iM6 sM6 ++ gM G uM7 xM70 iM7_22 sM7_23 ++ gM G uM8 xM80 iM8 sM8 ++ gM G uM9 xM90 iM9 sM9)) (k := 0) (by simp only [List.append_assoc, List.append_nil, List.nil_append]) rfl rfl) (v := .int (iX 6)) rfl dX10_keepForUndo_76 ?_
    refine lv_iconst (v := 1) X.hx X.hb dX10_keepForUndo_79 (by decide) ?_
    refine lv_iadd X.hx X.hb dX10_keepForUndo_80 ?_
    refine pf_X10_48 X hP hD hS 0 (get_blk (L := ([] : va_W)) (g := (gX G uX xX0 xX1 xX2 (uM 0) xX4 xX7 xX8 xX9 xX10 xX11 xX12 xX13 (kl8 (uM2 0) (uM3 0) (uM4 0) (uM5 0) (uM6 0) (uM7 0) (uM8 0) (uM9 0)) iX)) (R := (gM G uM xM0 iM sM ++ gM G uM2 xM20 iM2 sM2 ++ gM G uM3 xM30 iM3 sM3 ++ gM G uM4 xM40 iM4 sM4 ++ gM G uM5 xM50 iM5 sM5 ++ gM G uM6 xM60 iM6 sM6 ++ gM G uM7 xM70 iM7_22 sM7_23 ++ gM G uM8 xM80 iM8 sM8 ++ gM G uM9 xM90 iM9 sM9)) (k := 0) (by simp only [List.append_assoc, List.append_nil, List.nil_append]) rfl rfl) rfl rfl (Nat.le_of_ble_eq_true rfl) (wo := (gX G uX xX0 xX1 xX2 (uM 0) xX4 xX7 xX8 xX9 xX10 xX11 xX12 xX13 (kl8 (uM2 0) (uM3 0) (uM4 0) (uM5 0) (uM6 0) (uM7 0) (uM8 0) (uM9 0)) (va_up iX 6 ((iX 6) + 1)) ++ gM G uM xM0 iM sM ++ gM G uM2 xM20 iM2 sM2 ++ gM G uM3 xM30 iM3 sM3 ++ gM G uM4 xM40 iM4 sM4 ++ gM G uM5 xM50 iM5 sM5 ++ gM G uM6 xM60 iM6 sM6 ++ gM G uM7 xM70 iM7_22 sM7_23 ++ gM G uM8 xM80 iM8 sM8 ++ gM G uM9 xM90 iM9 sM9)) (set_blk (L := ([] : va_W)) (g := (gX G uX xX0 xX1 xX2 (uM 0) xX4 xX7 xX8 xX9 xX10 xX11 xX12 xX13 (kl8 (uM2 0) (uM3 0) (uM4 0) (uM5 0) (uM6 0) (uM7 0) (uM8 0) (uM9 0)) iX)) (R := (gM G uM xM0 iM sM ++ gM G uM2 xM20 iM2 sM2 ++ gM G uM3 xM30 iM3 sM3 ++ gM G uM4 xM40 iM4 sM4 ++ gM G uM5 xM50 iM5 sM5 ++ gM G uM6 xM60 iM6 sM6 ++ gM G uM7 xM70 iM7_22 sM7_23 ++ gM G uM8 xM80 iM8 sM8 ++ gM G uM9 xM90 iM9 sM9)) (g' := (gX G uX xX0 xX1 xX2 (uM 0) xX4 xX7 xX8 xX9 xX10 xX11 xX12 xX13 (kl8 (uM2 0) (uM3 0) (uM4 0) (uM5 0) (uM6 0) (uM7 0) (uM8 0) (uM9 0)) (va_up iX 6 ((iX 6) + 1)))) (k := 0) (by simp only [List.append_assoc, List.append_nil, List.nil_append]) rfl (Nat.le_of_ble_eq_true rfl) rfl (by simp only [List.append_assoc, List.append_nil, List.nil_append])) dX10_keepForUndo_81 (fun H locs hP hD hS => ?_)
    cases hf
    subst hQ
    exact r_vret X hP hD hS dX10_keepForUndo_84
  replace hf := if_f hf hc_21
  by_cases hc_25 : (iX 6) = 6
  · replace hf := if_t hf hc_25
    refine r_nm hc_25.symm ?_
    refine va_aldq X.hx X.hb X.hK hP 1 4 (f := (kl8 (uM2 0) (uM3 0) (uM4 0) (uM5 0) (uM6 0) (uM7 0) (uM8 0) (uM9 0))) (get_blk (L := ([] : va_W)) (g := (gX G uX xX0 xX1 xX2 (uM 0) xX4 xX7 xX8 xX9 xX10 xX11 xX12 xX13 (kl8 (uM2 0) (uM3 0) (uM4 0) (uM5 0) (uM6 0) (uM7 0) (uM8 0) (uM9 0)) iX)) (R := (gM G uM xM0 iM sM ++ gM G uM2 xM20 iM2 sM2 ++ gM G uM3 xM30 iM3 sM3 ++ gM G uM4 xM40 iM4 sM4 ++ gM G uM5 xM50 iM5 sM5 ++ gM G uM6 xM60 iM6 sM6 ++ gM G uM7 xM70 iM7 sM7 ++ gM G uM8 xM80 iM8 sM8 ++ gM G uM9 xM90 iM9 sM9)) (k := 1) (by simp only [List.append_assoc, List.append_nil, List.nil_append]) rfl rfl) rfl (i := 6) (vp_c rfl) dX10_keepForUndo_66 ?_
    refine W.eq (g2 := F0 m 67 ls [.ref (uM8 0)]) rfl ?_
    refine lv_aload_n X.hx X.hb dX10_keepForUndo_67 rfl (lv_at hl 0 rfl) ?_
    refine gf_X10_37 X hP 0 (get_blk (L := ([] : va_W)) (g := (gX G uX xX0 xX1 xX2 (uM 0) xX4 xX7 xX8 xX9 xX10 xX11 xX12 xX13 (kl8 (uM2 0) (uM3 0) (uM4 0) (uM5 0) (uM6 0) (uM7 0) (uM8 0) (uM9 0)) iX)) (R := (gM G uM xM0 iM sM ++ gM G uM2 xM20 iM2 sM2 ++ gM G uM3 xM30 iM3 sM3 ++ gM G uM4 xM40 iM4 sM4 ++ gM G uM5 xM50 iM5 sM5 ++ gM G uM6 xM60 iM6 sM6 ++ gM G uM7 xM70 iM7 sM7 ++ gM G uM8 xM80 iM8 sM8 ++ gM G uM9 xM90 iM9 sM9)) (k := 0) (by simp only [List.append_assoc, List.append_nil, List.nil_append]) rfl rfl) (v := .ref (uM 0)) rfl dX10_keepForUndo_68 ?_
    obtain ⟨⟨iM8_26, sM8_27⟩, hc_28, hf⟩ := bd_i hf
    refine r_pvv [gX G uX xX0 xX1 xX2 (uM 0) xX4 xX7 xX8 xX9 xX10 xX11 xX12 xX13 (kl8 (uM2 0) (uM3 0) (uM4 0) (uM5 0) (uM6 0) (uM7 0) (uM8 0) (uM9 0)) iX, gM G uM xM0 iM sM, gM G uM2 xM20 iM2 sM2, gM G uM3 xM30 iM3 sM3, gM G uM4 xM40 iM4 sM4, gM G uM5 xM50 iM5 sM5, gM G uM6 xM60 iM6 sM6, gM G uM7 xM70 iM7 sM7, gM G uM8 xM80 iM8 sM8, gM G uM9 xM90 iM9 sM9] [gX G uX xX0 xX1 xX2 (uM 0) xX4 xX7 xX8 xX9 xX10 xX11 xX12 xX13 (kl8 (uM2 0) (uM3 0) (uM4 0) (uM5 0) (uM6 0) (uM7 0) (uM8 0) (uM9 0)) iX, gM G uM xM0 iM sM, gM G uM2 xM20 iM2 sM2, gM G uM3 xM30 iM3 sM3, gM G uM4 xM40 iM4 sM4, gM G uM5 xM50 iM5 sM5, gM G uM6 xM60 iM6 sM6, gM G uM7 xM70 iM7 sM7, gM G uM8 xM80 iM8_26 sM8_27, gM G uM9 xM90 iM9 sM9] [gM G uM8 xM80 iM8 sM8, gM G uM xM0 iM sM] [gM G uM8 xM80 iM8_26 sM8_27, gM G uM xM0 iM sM] [gX G uX xX0 xX1 xX2 (uM 0) xX4 xX7 xX8 xX9 xX10 xX11 xX12 xX13 (kl8 (uM2 0) (uM3 0) (uM4 0) (uM5 0) (uM6 0) (uM7 0) (uM8 0) (uM9 0)) iX, gM G uM2 xM20 iM2 sM2, gM G uM3 xM30 iM3 sM3, gM G uM4 xM40 iM4 sM4, gM G uM5 xM50 iM5 sM5, gM G uM6 xM60 iM6 sM6, gM G uM7 xM70 iM7 sM7, gM G uM9 xM90 iM9 sM9] 10 [8, 1] [0, 2, 3, 4, 5, 6, 7, 9] (As := [.ref (uM 0)]) (rest := []) X sm_X10_244 (c_X4_copyFrom l G N uM8 uM xM80 xM0 iM8 sM8 iM sM hc_28) hP hD hS hA rfl rfl (by decide) (by simp only [List.flatten_cons, List.flatten_nil, List.append_assoc, List.append_nil]) rfl (by simp only [List.flatten_cons, List.flatten_nil, List.append_assoc, List.append_nil]) rfl (by simp only [List.flatten_cons, List.flatten_nil, List.append_assoc, List.append_nil]) rfl rfl (wo := (gX G uX xX0 xX1 xX2 (uM 0) xX4 xX7 xX8 xX9 xX10 xX11 xX12 xX13 (kl8 (uM2 0) (uM3 0) (uM4 0) (uM5 0) (uM6 0) (uM7 0) (uM8 0) (uM9 0)) iX ++ gM G uM xM0 iM sM ++ gM G uM2 xM20 iM2 sM2 ++ gM G uM3 xM30 iM3 sM3 ++ gM G uM4 xM40 iM4 sM4 ++ gM G uM5 xM50 iM5 sM5 ++ gM G uM6 xM60 iM6 sM6 ++ gM G uM7 xM70 iM7 sM7 ++ gM G uM8 xM80 iM8_26 sM8_27 ++ gM G uM9 xM90 iM9 sM9)) (by simp only [List.flatten_cons, List.flatten_nil, List.append_assoc, List.append_nil]) 0 rfl rfl rfl hl.1 (lv_room (Nat.le_of_ble_eq_true rfl)) ⟨Nat.le_of_ble_eq_true rfl, Nat.le_of_ble_eq_true rfl⟩ ⟨Nat.zero_le _, Nat.zero_le _⟩ dX10_keepForUndo_71 (fun H locs hP hD hS => ?_)
    refine lv_aload_n X.hx X.hb dX10_keepForUndo_74 rfl (lv_at hl 0 rfl) ?_
    refine lv_dup X.hx X.hb dX10_keepForUndo_75 rfl ?_
    refine gf_X10_48 X hP 0 (get_blk (L := ([] : va_W)) (g := (gX G uX xX0 xX1 xX2 (uM 0) xX4 xX7 xX8 xX9 xX10 xX11 xX12 xX13 (kl8 (uM2 0) (uM3 0) (uM4 0) (uM5 0) (uM6 0) (uM7 0) (uM8 0) (uM9 0)) iX)) (R := (gM G uM xM0 iM sM ++ gM G uM2 xM20 iM2 sM2 ++ gM G uM3 xM30 iM3 sM3 ++ gM G uM4 xM40 iM4 sM4 ++ gM G uM5 xM50 iM5 sM5 ++ gM G uM6 xM60 iM6 sM6 ++ gM G uM7 xM70 iM7 sM7 ++ gM G uM8 xM80 iM8_26 sM8_27 ++ gM G uM9 xM90 iM9 sM9)) (k := 0) (by simp only [List.append_assoc, List.append_nil, List.nil_append]) rfl rfl) (v := .int (iX 6)) rfl dX10_keepForUndo_76 ?_
    refine lv_iconst (v := 1) X.hx X.hb dX10_keepForUndo_79 (by decide) ?_
    refine lv_iadd X.hx X.hb dX10_keepForUndo_80 ?_
    refine pf_X10_48 X hP hD hS 0 (get_blk (L := ([] : va_W)) (g := (gX G uX xX0 xX1 xX2 (uM 0) xX4 xX7 xX8 xX9 xX10 xX11 xX12 xX13 (kl8 (uM2 0) (uM3 0) (uM4 0) (uM5 0) (uM6 0) (uM7 0) (uM8 0) (uM9 0)) iX)) (R := (gM G uM xM0 iM sM ++ gM G uM2 xM20 iM2 sM2 ++ gM G uM3 xM30 iM3 sM3 ++ gM G uM4 xM40 iM4 sM4 ++ gM G uM5 xM50 iM5 sM5 ++ gM G uM6 xM60 iM6 sM6 ++ gM G uM7 xM70 iM7 sM7 ++ gM G uM8 xM80 iM8_26 sM8_27 ++ gM G uM9 xM90 iM9 sM9)) (k := 0) (by simp only [List.append_assoc, List.append_nil, List.nil_append]) rfl rfl) rfl rfl (Nat.le_of_ble_eq_true rfl) (wo := (gX G uX xX0 xX1 xX2 (uM 0) xX4 xX7 xX8 xX9 xX10 xX11 xX12 xX13 (kl8 (uM2 0) (uM3 0) (uM4 0) (uM5 0) (uM6 0) (uM7 0) (uM8 0) (uM9 0)) (va_up iX 6 ((iX 6) + 1)) ++ gM G uM xM0 iM sM ++ gM G uM2 xM20 iM2 sM2 ++ gM G uM3 xM30 iM3 sM3 ++ gM G uM4 xM40 iM4 sM4 ++ gM G uM5 xM50 iM5 sM5 ++ gM G uM6 xM60 iM6 sM6 ++ gM G uM7 xM70 iM7 sM7 ++ gM G uM8 xM80 iM8_26 sM8_27 ++ gM G uM9 xM90 iM9 sM9)) (set_blk (L := ([] : va_W)) (g := (gX G uX xX0 xX1 xX2 (uM 0) xX4 xX7 xX8 xX9 xX10 xX11 xX12 xX13 (kl8 (uM2 0) (uM3 0) (uM4 0) (uM5 0) (uM6 0) (uM7 0) (uM8 0) (uM9 0)) iX)) (R := (gM G uM xM0 iM sM ++ gM G uM2 xM20 iM2 sM2 ++ gM G uM3 xM30 iM3 sM3 ++ gM G uM4 xM40 iM4 sM4 ++ gM G uM5 xM50 iM5 sM5 ++ gM G uM6 xM60 iM6 sM6 ++ gM G uM7 xM70 iM7 sM7 ++ gM G uM8 xM80 iM8_26 sM8_27 ++ gM G uM9 xM90 iM9 sM9)) (g' := (gX G uX xX0 xX1 xX2 (uM 0) xX4 xX7 xX8 xX9 xX10 xX11 xX12 xX13 (kl8 (uM2 0) (uM3 0) (uM4 0) (uM5 0) (uM6 0) (uM7 0) (uM8 0) (uM9 0)) (va_up iX 6 ((iX 6) + 1)))) (k := 0) (by simp only [List.append_assoc, List.append_nil, List.nil_append]) rfl (Nat.le_of_ble_eq_true rfl) rfl (by simp only [List.append_assoc, List.append_nil, List.nil_append])) dX10_keepForUndo_81 (fun H locs hP hD hS => ?_)
    cases hf
    subst hQ
    exact r_vret X hP hD hS dX10_keepForUndo_84
  replace hf := if_f hf hc_25
  by_cases hc_29 : (iX 6) = 7
  · replace hf := if_t hf hc_29
    refine r_nm hc_29.symm ?_
    refine va_aldq X.hx X.hb X.hK hP 1 4 (f := (kl8 (uM2 0) (uM3 0) (uM4 0) (uM5 0) (uM6 0) (uM7 0) (uM8 0) (uM9 0))) (get_blk (L := ([] : va_W)) (g := (gX G uX xX0 xX1 xX2 (uM 0) xX4 xX7 xX8 xX9 xX10 xX11 xX12 xX13 (kl8 (uM2 0) (uM3 0) (uM4 0) (uM5 0) (uM6 0) (uM7 0) (uM8 0) (uM9 0)) iX)) (R := (gM G uM xM0 iM sM ++ gM G uM2 xM20 iM2 sM2 ++ gM G uM3 xM30 iM3 sM3 ++ gM G uM4 xM40 iM4 sM4 ++ gM G uM5 xM50 iM5 sM5 ++ gM G uM6 xM60 iM6 sM6 ++ gM G uM7 xM70 iM7 sM7 ++ gM G uM8 xM80 iM8 sM8 ++ gM G uM9 xM90 iM9 sM9)) (k := 1) (by simp only [List.append_assoc, List.append_nil, List.nil_append]) rfl rfl) rfl (i := 7) (vp_c rfl) dX10_keepForUndo_66 ?_
    refine W.eq (g2 := F0 m 67 ls [.ref (uM9 0)]) rfl ?_
    refine lv_aload_n X.hx X.hb dX10_keepForUndo_67 rfl (lv_at hl 0 rfl) ?_
    refine gf_X10_37 X hP 0 (get_blk (L := ([] : va_W)) (g := (gX G uX xX0 xX1 xX2 (uM 0) xX4 xX7 xX8 xX9 xX10 xX11 xX12 xX13 (kl8 (uM2 0) (uM3 0) (uM4 0) (uM5 0) (uM6 0) (uM7 0) (uM8 0) (uM9 0)) iX)) (R := (gM G uM xM0 iM sM ++ gM G uM2 xM20 iM2 sM2 ++ gM G uM3 xM30 iM3 sM3 ++ gM G uM4 xM40 iM4 sM4 ++ gM G uM5 xM50 iM5 sM5 ++ gM G uM6 xM60 iM6 sM6 ++ gM G uM7 xM70 iM7 sM7 ++ gM G uM8 xM80 iM8 sM8 ++ gM G uM9 xM90 iM9 sM9)) (k := 0) (by simp only [List.append_assoc, List.append_nil, List.nil_append]) rfl rfl) (v := .ref (uM 0)) rfl dX10_keepForUndo_68 ?_
    obtain ⟨⟨iM9_30, sM9_31⟩, hc_32, hf⟩ := bd_i hf
    refine r_pvv [gX G uX xX0 xX1 xX2 (uM 0) xX4 xX7 xX8 xX9 xX10 xX11 xX12 xX13 (kl8 (uM2 0) (uM3 0) (uM4 0) (uM5 0) (uM6 0) (uM7 0) (uM8 0) (uM9 0)) iX, gM G uM xM0 iM sM, gM G uM2 xM20 iM2 sM2, gM G uM3 xM30 iM3 sM3, gM G uM4 xM40 iM4 sM4, gM G uM5 xM50 iM5 sM5, gM G uM6 xM60 iM6 sM6, gM G uM7 xM70 iM7 sM7, gM G uM8 xM80 iM8 sM8, gM G uM9 xM90 iM9 sM9] [gX G uX xX0 xX1 xX2 (uM 0) xX4 xX7 xX8 xX9 xX10 xX11 xX12 xX13 (kl8 (uM2 0) (uM3 0) (uM4 0) (uM5 0) (uM6 0) (uM7 0) (uM8 0) (uM9 0)) iX, gM G uM xM0 iM sM, gM G uM2 xM20 iM2 sM2, gM G uM3 xM30 iM3 sM3, gM G uM4 xM40 iM4 sM4, gM G uM5 xM50 iM5 sM5, gM G uM6 xM60 iM6 sM6, gM G uM7 xM70 iM7 sM7, gM G uM8 xM80 iM8 sM8, gM G uM9 xM90 iM9_30 sM9_31] [gM G uM9 xM90 iM9 sM9, gM G uM xM0 iM sM] [gM G uM9 xM90 iM9_30 sM9_31, gM G uM xM0 iM sM] [gX G uX xX0 xX1 xX2 (uM 0) xX4 xX7 xX8 xX9 xX10 xX11 xX12 xX13 (kl8 (uM2 0) (uM3 0) (uM4 0) (uM5 0) (uM6 0) (uM7 0) (uM8 0) (uM9 0)) iX, gM G uM2 xM20 iM2 sM2, gM G uM3 xM30 iM3 sM3, gM G uM4 xM40 iM4 sM4, gM G uM5 xM50 iM5 sM5, gM G uM6 xM60 iM6 sM6, gM G uM7 xM70 iM7 sM7, gM G uM8 xM80 iM8 sM8] 10 [9, 1] [0, 2, 3, 4, 5, 6, 7, 8] (As := [.ref (uM 0)]) (rest := []) X sm_X10_244 (c_X4_copyFrom l G N uM9 uM xM90 xM0 iM9 sM9 iM sM hc_32) hP hD hS hA rfl rfl (by decide) (by simp only [List.flatten_cons, List.flatten_nil, List.append_assoc, List.append_nil]) rfl (by simp only [List.flatten_cons, List.flatten_nil, List.append_assoc, List.append_nil]) rfl (by simp only [List.flatten_cons, List.flatten_nil, List.append_assoc, List.append_nil]) rfl rfl (wo := (gX G uX xX0 xX1 xX2 (uM 0) xX4 xX7 xX8 xX9 xX10 xX11 xX12 xX13 (kl8 (uM2 0) (uM3 0) (uM4 0) (uM5 0) (uM6 0) (uM7 0) (uM8 0) (uM9 0)) iX ++ gM G uM xM0 iM sM ++ gM G uM2 xM20 iM2 sM2 ++ gM G uM3 xM30 iM3 sM3 ++ gM G uM4 xM40 iM4 sM4 ++ gM G uM5 xM50 iM5 sM5 ++ gM G uM6 xM60 iM6 sM6 ++ gM G uM7 xM70 iM7 sM7 ++ gM G uM8 xM80 iM8 sM8 ++ gM G uM9 xM90 iM9_30 sM9_31)) (by simp only [List.flatten_cons, List.flatten_nil, List.append_assoc, List.append_nil]) 0 rfl rfl rfl hl.1 (lv_room (Nat.le_of_ble_eq_true rfl)) ⟨Nat.le_of_ble_eq_true rfl, Nat.le_of_ble_eq_true rfl⟩ ⟨Nat.zero_le _, Nat.zero_le _⟩ dX10_keepForUndo_71 (fun H locs hP hD hS => ?_)
    refine lv_aload_n X.hx X.hb dX10_keepForUndo_74 rfl (lv_at hl 0 rfl) ?_
    refine lv_dup X.hx X.hb dX10_keepForUndo_75 rfl ?_
    refine gf_X10_48 X hP 0 (get_blk (L := ([] : va_W)) (g := (gX G uX xX0 xX1 xX2 (uM 0) xX4 xX7 xX8 xX9 xX10 xX11 xX12 xX13 (kl8 (uM2 0) (uM3 0) (uM4 0) (uM5 0) (uM6 0) (uM7 0) (uM8 0) (uM9 0)) iX)) (R := (gM G uM xM0 iM sM ++ gM G uM2 xM20 iM2 sM2 ++ gM G uM3 xM30 iM3 sM3 ++ gM G uM4 xM40 iM4 sM4 ++ gM G uM5 xM50 iM5 sM5 ++ gM G uM6 xM60 iM6 sM6 ++ gM G uM7 xM70 iM7 sM7 ++ gM G uM8 xM80 iM8 sM8 ++ gM G uM9 xM90 iM9_30 sM9_31)) (k := 0) (by simp only [List.append_assoc, List.append_nil, List.nil_append]) rfl rfl) (v := .int (iX 6)) rfl dX10_keepForUndo_76 ?_
    refine lv_iconst (v := 1) X.hx X.hb dX10_keepForUndo_79 (by decide) ?_
    refine lv_iadd X.hx X.hb dX10_keepForUndo_80 ?_
    refine pf_X10_48 X hP hD hS 0 (get_blk (L := ([] : va_W)) (g := (gX G uX xX0 xX1 xX2 (uM 0) xX4 xX7 xX8 xX9 xX10 xX11 xX12 xX13 (kl8 (uM2 0) (uM3 0) (uM4 0) (uM5 0) (uM6 0) (uM7 0) (uM8 0) (uM9 0)) iX)) (R := (gM G uM xM0 iM sM ++ gM G uM2 xM20 iM2 sM2 ++ gM G uM3 xM30 iM3 sM3 ++ gM G uM4 xM40 iM4 sM4 ++ gM G uM5 xM50 iM5 sM5 ++ gM G uM6 xM60 iM6 sM6 ++ gM G uM7 xM70 iM7 sM7 ++ gM G uM8 xM80 iM8 sM8 ++ gM G uM9 xM90 iM9_30 sM9_31)) (k := 0) (by simp only [List.append_assoc, List.append_nil, List.nil_append]) rfl rfl) rfl rfl (Nat.le_of_ble_eq_true rfl) (wo := (gX G uX xX0 xX1 xX2 (uM 0) xX4 xX7 xX8 xX9 xX10 xX11 xX12 xX13 (kl8 (uM2 0) (uM3 0) (uM4 0) (uM5 0) (uM6 0) (uM7 0) (uM8 0) (uM9 0)) (va_up iX 6 ((iX 6) + 1)) ++ gM G uM xM0 iM sM ++ gM G uM2 xM20 iM2 sM2 ++ gM G uM3 xM30 iM3 sM3 ++ gM G uM4 xM40 iM4 sM4 ++ gM G uM5 xM50 iM5 sM5 ++ gM G uM6 xM60 iM6 sM6 ++ gM G uM7 xM70 iM7 sM7 ++ gM G uM8 xM80 iM8 sM8 ++ gM G uM9 xM90 iM9_30 sM9_31)) (set_blk (L := ([] : va_W)) (g := (gX G uX xX0 xX1 xX2 (uM 0) xX4 xX7 xX8 xX9 xX10 xX11 xX12 xX13 (kl8 (uM2 0) (uM3 0) (uM4 0) (uM5 0) (uM6 0) (uM7 0) (uM8 0) (uM9 0)) iX)) (R := (gM G uM xM0 iM sM ++ gM G uM2 xM20 iM2 sM2 ++ gM G uM3 xM30 iM3 sM3 ++ gM G uM4 xM40 iM4 sM4 ++ gM G uM5 xM50 iM5 sM5 ++ gM G uM6 xM60 iM6 sM6 ++ gM G uM7 xM70 iM7 sM7 ++ gM G uM8 xM80 iM8 sM8 ++ gM G uM9 xM90 iM9_30 sM9_31)) (g' := (gX G uX xX0 xX1 xX2 (uM 0) xX4 xX7 xX8 xX9 xX10 xX11 xX12 xX13 (kl8 (uM2 0) (uM3 0) (uM4 0) (uM5 0) (uM6 0) (uM7 0) (uM8 0) (uM9 0)) (va_up iX 6 ((iX 6) + 1)))) (k := 0) (by simp only [List.append_assoc, List.append_nil, List.nil_append]) rfl (Nat.le_of_ble_eq_true rfl) rfl (by simp only [List.append_assoc, List.append_nil, List.nil_append])) dX10_keepForUndo_81 (fun H locs hP hD hS => ?_)
    cases hf
    subst hQ
    exact r_vret X hP hD hS dX10_keepForUndo_84
  replace hf := if_f hf hc_29
  cases hf

