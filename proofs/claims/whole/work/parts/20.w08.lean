def f_X7_readText (N : Nat) (sT : Nat → Nat → Int32) (iT : Nat → Int32) (jT : Nat → Int64) (iC : Nat → Int32) (tC : Nat → Nat → Int64) (sC : Nat → Nat → Int32) (iS : Nat → Int32) (sS : Nat → Nat → Int32) : Option (Int32 × (Nat → Int32) × (Nat → Int64) × (Nat → Int32) × (Nat → Nat → Int32)) :=
  bd (f_X6_clear N iS sS) (fun iS_1 => bd (f_X8_open N sT iT jT 200) (fun (iT_3, jT_4) => bd (f_X7_readCond N sT iT_3 jT_4 iC tC sC iS_1 sS 1) (fun (r_6, iT_7, jT_8, iS_9, sS_10) => (if r_6 = 0 then some (0, iT_7, jT_8, iS_9, sS_10) else bd (f_X8_passEnd N sT iT_7 jT_8) (fun (r_13, iT_14) => (if r_13 = 0 then some (0, iT_14, jT_8, iS_9, sS_10) else some (1, iT_14, jT_8, iS_9, sS_10)))))))
set_option maxHeartbeats 4000000 in
set_option maxRecDepth 100000 in
theorem c_X7_readText (l : Launch) (G : GT) (N : Nat) (uQ uT uC uS : Nat → Nat) (sT : Nat → Nat → Int32) (iT : Nat → Int32) (jT : Nat → Int64) (iC : Nat → Int32) (tC : Nat → Nat → Int64) (sC : Nat → Nat → Int32) (iS : Nat → Int32) (sS : Nat → Nat → Int32) {r : Int32} {iT' : Nat → Int32} {jT' : Nat → Int64} {iS' : Nat → Int32} {sS' : Nat → Nat → Int32} (hf : f_X7_readText N sT iT jT iC tC sC iS sS = some (r, iT', jT', iS', sS')) : CI l G yX7_readText cX7_readText 1 .boolean 28 [.ref (uQ 0)] (gQ G uQ (uT 0) (uC 0) (uS 0) ++ gT G uT sT iT jT ++ gC G uC iC tC sC ++ gS G uS iS sS) r (gQ G uQ (uT 0) (uC 0) (uS 0) ++ gT G uT sT iT' jT' ++ gC G uC iC tC sC ++ gS G uS iS' sS') := by
  refine CI.of (by decide) (Nat.le_of_ble_eq_true rfl) ?_
  intro p e s m args below meth c A X hA hP hD hS ls hl
  have hl : lv_has ls 1 [(0, .ref (uQ 0))] := hl
  generalize hQ : MQ below (QI G A r (gQ G uQ (uT 0) (uC 0) (uS 0) ++ gT G uT sT iT' jT' ++ gC G uC iC tC sC ++ gS G uS iS' sS')) args s 0 0 A = QQ
  unfold f_X7_readText at hf
  refine lv_aload_n X.hx X.hb dX7_readText_0 rfl (lv_at hl 0 rfl) ?_
  refine gf_X7_12 X hP 0 rfl (v := .ref (uS 0)) rfl dX7_readText_1 ?_
  obtain ⟨iS_1, hc_2, hf⟩ := bd_i hf
  refine r_bvv (gQ G uQ (uT 0) (uC 0) (uS 0) ++ gT G uT sT iT jT ++ gC G uC iC tC sC) ([] : va_W) (As := []) (rest := []) X sm_X7_26 (c_X6_clear l G N uS iS sS hc_2) hP hD hS hA (by simp only [List.append_assoc, List.append_nil, List.nil_append]) (wo := (gQ G uQ (uT 0) (uC 0) (uS 0) ++ gT G uT sT iT jT ++ gC G uC iC tC sC ++ gS G uS iS_1 sS)) (by simp only [List.append_assoc, List.append_nil, List.nil_append]) 0 rfl rfl rfl hl.1 (lv_room (Nat.le_of_ble_eq_true rfl)) ⟨Nat.le_of_ble_eq_true rfl, Nat.le_of_ble_eq_true rfl⟩ ⟨Nat.zero_le _, Nat.zero_le _⟩ dX7_readText_4 (fun H locs hP hD hS => ?_)
  refine lv_aload_n X.hx X.hb dX7_readText_7 rfl (lv_at hl 0 rfl) ?_
  refine gf_X7_18 X hP 0 rfl (v := .ref (uT 0)) rfl dX7_readText_8 ?_
  refine lv_sipush (v := 200) X.hx X.hb dX7_readText_11 (by decide) ?_
  obtain ⟨⟨iT_3, jT_4⟩, hc_5, hf⟩ := bd_i hf
  refine r_bvv (gQ G uQ (uT 0) (uC 0) (uS 0)) (gC G uC iC tC sC ++ gS G uS iS_1 sS) (As := [.int 200]) (rest := []) X sm_X7_29 (c_X8_open l G N uT sT iT jT 200 hc_5) hP hD hS hA (by simp only [List.append_assoc, List.append_nil, List.nil_append]) (wo := (gQ G uQ (uT 0) (uC 0) (uS 0) ++ gT G uT sT iT_3 jT_4 ++ gC G uC iC tC sC ++ gS G uS iS_1 sS)) (by simp only [List.append_assoc, List.append_nil, List.nil_append]) 0 rfl rfl rfl hl.1 (lv_room (Nat.le_of_ble_eq_true rfl)) ⟨Nat.le_of_ble_eq_true rfl, Nat.le_of_ble_eq_true rfl⟩ ⟨Nat.zero_le _, Nat.zero_le _⟩ dX7_readText_14 (fun H locs hP hD hS => ?_)
  refine lv_aload_n X.hx X.hb dX7_readText_17 rfl (lv_at hl 0 rfl) ?_
  refine lv_iconst (v := 1) X.hx X.hb dX7_readText_18 (by decide) ?_
  obtain ⟨⟨r_6, iT_7, jT_8, iS_9, sS_10⟩, hc_11, hf⟩ := bd_i hf
  refine r_wvi (As := [.int 1]) (rest := []) X sm_X7_35 (c_X7_readCond l G N uQ uT uC uS sT iT_3 jT_4 iC tC sC iS_1 sS 1 hc_11) hP hD hS hA 0 rfl rfl rfl hl.1 (lv_room (Nat.le_of_ble_eq_true rfl)) ⟨Nat.le_of_ble_eq_true rfl, Nat.le_of_ble_eq_true rfl⟩ ⟨Nat.zero_le _, Nat.zero_le _⟩ dX7_readText_19 (fun H locs hP hD hS => ?_)
  refine lv_if_eq (tgt := 39) X.hx X.hb dX7_readText_22 (by decide) (fun hc_12 => ?_) (fun hc_12 => ?_)
  · replace hf := if_t hf hc_12
    refine lv_iconst (v := 0) X.hx X.hb dX7_readText_39 (by decide) ?_
    cases hf
    subst hQ
    exact r_zret X hP hD hS (by decide) dX7_readText_40
  · replace hf := if_f hf hc_12
    refine lv_aload_n X.hx X.hb dX7_readText_25 rfl (lv_at hl 0 rfl) ?_
    refine gf_X7_18 X hP 0 rfl (v := .ref (uT 0)) rfl dX7_readText_26 ?_
    obtain ⟨⟨r_13, iT_14⟩, hc_15, hf⟩ := bd_i hf
    refine r_bvi (gQ G uQ (uT 0) (uC 0) (uS 0)) (gC G uC iC tC sC ++ gS G uS iS_9 sS_10) (As := []) (rest := []) X sm_X7_39 (c_X8_passEnd l G N uT sT iT_7 jT_8 hc_15) hP hD hS hA (by simp only [List.append_assoc, List.append_nil, List.nil_append]) (wo := (gQ G uQ (uT 0) (uC 0) (uS 0) ++ gT G uT sT iT_14 jT_8 ++ gC G uC iC tC sC ++ gS G uS iS_9 sS_10)) (by simp only [List.append_assoc, List.append_nil, List.nil_append]) 0 rfl rfl rfl hl.1 (lv_room (Nat.le_of_ble_eq_true rfl)) ⟨Nat.le_of_ble_eq_true rfl, Nat.le_of_ble_eq_true rfl⟩ ⟨Nat.zero_le _, Nat.zero_le _⟩ dX7_readText_29 (fun H locs hP hD hS => ?_)
    refine lv_if_eq (tgt := 39) X.hx X.hb dX7_readText_32 (by decide) (fun hc_16 => ?_) (fun hc_16 => ?_)
    · replace hf := if_t hf hc_16
      refine lv_iconst (v := 0) X.hx X.hb dX7_readText_39 (by decide) ?_
      cases hf
      subst hQ
      exact r_zret X hP hD hS (by decide) dX7_readText_40
    · replace hf := if_f hf hc_16
      refine lv_iconst (v := 1) X.hx X.hb dX7_readText_35 (by decide) ?_
      refine lv_goto (tgt := 40) X.hx X.hb dX7_readText_36 (by decide) ?_
      cases hf
      subst hQ
      exact r_zret X hP hD hS (by decide) dX7_readText_40

def f_X10_feed (N : Nat) (qX : Nat → Option Nat) (iX : Nat → Int32) (sT : Nat → Nat → Int32) (iT : Nat → Int32) (jT : Nat → Int64) (p1 : Int32) (p2 : Int32) (p3 : Int32) (p4 : Int32) (p5 : Int32) : Option (Int32 × (Nat → Nat → Int32) × (Nat → Int32)) :=
  bd (f_X8_hasRoomForFeed N sT iT jT) (fun r_1 => (if r_1 = 0 then some ((-1), sT, iT) else bd (f_X8_append N sT iT jT p1) (fun (sT_4, iT_5) => bd (f_X8_append N sT_4 iT_5 jT p2) (fun (sT_7, iT_8) => bd (f_X8_append N sT_7 iT_8 jT p3) (fun (sT_10, iT_11) => bd (f_X8_append N sT_10 iT_11 jT p4) (fun (sT_13, iT_14) => bd (f_X8_append N sT_13 iT_14 jT p5) (fun (sT_16, iT_17) => some ((iT_17 1), sT_16, iT_17))))))))
set_option maxHeartbeats 4000000 in
set_option maxRecDepth 100000 in
theorem c_X10_feed (l : Launch) (G : GT) (N : Nat) (uX uT : Nat → Nat) (xX1 xX2 xX3 xX4 xX7 xX8 xX9 xX10 xX11 xX12 xX13 : Nat) (qX : Nat → Option Nat) (iX : Nat → Int32) (sT : Nat → Nat → Int32) (iT : Nat → Int32) (jT : Nat → Int64) (p1 : Int32) (p2 : Int32) (p3 : Int32) (p4 : Int32) (p5 : Int32) {r : Int32} {sT' : Nat → Nat → Int32} {iT' : Nat → Int32} (hf : f_X10_feed N qX iX sT iT jT p1 p2 p3 p4 p5 = some (r, sT', iT')) : CI l G yX10_feed cX10_feed 6 .int 2 [.ref (uX 0), .int p1, .int p2, .int p3, .int p4, .int p5] (gX G uX (uT 0) xX1 xX2 xX3 xX4 xX7 xX8 xX9 xX10 xX11 xX12 xX13 qX iX ++ gT G uT sT iT jT) r (gX G uX (uT 0) xX1 xX2 xX3 xX4 xX7 xX8 xX9 xX10 xX11 xX12 xX13 qX iX ++ gT G uT sT' iT' jT) := by
  refine CI.of (by decide) (Nat.le_of_ble_eq_true rfl) ?_
  intro p e s m args below meth c A X hA hP hD hS ls hl
  have hl : lv_has ls 6 [(0, .ref (uX 0)), (1, .int p1), (2, .int p2), (3, .int p3), (4, .int p4), (5, .int p5)] := hl
  generalize hQ : MQ below (QI G A r (gX G uX (uT 0) xX1 xX2 xX3 xX4 xX7 xX8 xX9 xX10 xX11 xX12 xX13 qX iX ++ gT G uT sT' iT' jT)) args s 0 0 A = QQ
  unfold f_X10_feed at hf
  refine lv_aload_n X.hx X.hb dX10_feed_0 rfl (lv_at hl 0 rfl) ?_
  refine gf_X10_10 X hP 0 rfl (v := .ref (uT 0)) rfl dX10_feed_1 ?_
  obtain ⟨r_1, hc_2, hf⟩ := bd_i hf
  refine r_bvi (gX G uX (uT 0) xX1 xX2 xX3 xX4 xX7 xX8 xX9 xX10 xX11 xX12 xX13 qX iX) ([] : va_W) (As := []) (rest := []) X sm_X10_104 (c_X8_hasRoomForFeed l G N uT sT iT jT hc_2) hP hD hS hA (by simp only [List.append_assoc, List.append_nil, List.nil_append]) (wo := (gX G uX (uT 0) xX1 xX2 xX3 xX4 xX7 xX8 xX9 xX10 xX11 xX12 xX13 qX iX ++ gT G uT sT iT jT)) (by simp only [List.append_assoc, List.append_nil, List.nil_append]) 0 rfl rfl rfl hl.1 (lv_room (Nat.le_of_ble_eq_true rfl)) ⟨Nat.le_of_ble_eq_true rfl, Nat.le_of_ble_eq_true rfl⟩ ⟨Nat.zero_le _, Nat.zero_le _⟩ dX10_feed_4 (fun H locs hP hD hS => ?_)
  refine lv_if_ne (tgt := 12) X.hx X.hb dX10_feed_7 (by decide) (fun hc_3 => ?_) (fun hc_3 => ?_)
  · replace hf := if_f hf hc_3
    refine lv_aload_n X.hx X.hb dX10_feed_12 rfl (lv_at hl 0 rfl) ?_
    refine gf_X10_10 X hP 0 rfl (v := .ref (uT 0)) rfl dX10_feed_13 ?_
    refine lv_iload_n X.hx X.hb dX10_feed_16 rfl (lv_at hl 1 rfl) ?_
    obtain ⟨⟨sT_4, iT_5⟩, hc_6, hf⟩ := bd_i hf
    refine r_bvv (gX G uX (uT 0) xX1 xX2 xX3 xX4 xX7 xX8 xX9 xX10 xX11 xX12 xX13 qX iX) ([] : va_W) (As := [.int p1]) (rest := []) X sm_X10_108 (c_X8_append l G N uT sT iT jT p1 hc_6) hP hD hS hA (by simp only [List.append_assoc, List.append_nil, List.nil_append]) (wo := (gX G uX (uT 0) xX1 xX2 xX3 xX4 xX7 xX8 xX9 xX10 xX11 xX12 xX13 qX iX ++ gT G uT sT_4 iT_5 jT)) (by simp only [List.append_assoc, List.append_nil, List.nil_append]) 0 rfl rfl rfl hl.1 (lv_room (Nat.le_of_ble_eq_true rfl)) ⟨Nat.le_of_ble_eq_true rfl, Nat.le_of_ble_eq_true rfl⟩ ⟨Nat.zero_le _, Nat.zero_le _⟩ dX10_feed_17 (fun H locs hP hD hS => ?_)
    refine lv_aload_n X.hx X.hb dX10_feed_20 rfl (lv_at hl 0 rfl) ?_
    refine gf_X10_10 X hP 0 rfl (v := .ref (uT 0)) rfl dX10_feed_21 ?_
    refine lv_iload_n X.hx X.hb dX10_feed_24 rfl (lv_at hl 2 rfl) ?_
    obtain ⟨⟨sT_7, iT_8⟩, hc_9, hf⟩ := bd_i hf
    refine r_bvv (gX G uX (uT 0) xX1 xX2 xX3 xX4 xX7 xX8 xX9 xX10 xX11 xX12 xX13 qX iX) ([] : va_W) (As := [.int p2]) (rest := []) X sm_X10_108 (c_X8_append l G N uT sT_4 iT_5 jT p2 hc_9) hP hD hS hA (by simp only [List.append_assoc, List.append_nil, List.nil_append]) (wo := (gX G uX (uT 0) xX1 xX2 xX3 xX4 xX7 xX8 xX9 xX10 xX11 xX12 xX13 qX iX ++ gT G uT sT_7 iT_8 jT)) (by simp only [List.append_assoc, List.append_nil, List.nil_append]) 0 rfl rfl rfl hl.1 (lv_room (Nat.le_of_ble_eq_true rfl)) ⟨Nat.le_of_ble_eq_true rfl, Nat.le_of_ble_eq_true rfl⟩ ⟨Nat.zero_le _, Nat.zero_le _⟩ dX10_feed_25 (fun H locs hP hD hS => ?_)
    refine lv_aload_n X.hx X.hb dX10_feed_28 rfl (lv_at hl 0 rfl) ?_
    refine gf_X10_10 X hP 0 rfl (v := .ref (uT 0)) rfl dX10_feed_29 ?_
    refine lv_iload_n X.hx X.hb dX10_feed_32 rfl (lv_at hl 3 rfl) ?_
    obtain ⟨⟨sT_10, iT_11⟩, hc_12, hf⟩ := bd_i hf
    refine r_bvv (gX G uX (uT 0) xX1 xX2 xX3 xX4 xX7 xX8 xX9 xX10 xX11 xX12 xX13 qX iX) ([] : va_W) (As := [.int p3]) (rest := []) X sm_X10_108 (c_X8_append l G N uT sT_7 iT_8 jT p3 hc_12) hP hD hS hA (by simp only [List.append_assoc, List.append_nil, List.nil_append]) (wo := (gX G uX (uT 0) xX1 xX2 xX3 xX4 xX7 xX8 xX9 xX10 xX11 xX12 xX13 qX iX ++ gT G uT sT_10 iT_11 jT)) (by simp only [List.append_assoc, List.append_nil, List.nil_append]) 0 rfl rfl rfl hl.1 (lv_room (Nat.le_of_ble_eq_true rfl)) ⟨Nat.le_of_ble_eq_true rfl, Nat.le_of_ble_eq_true rfl⟩ ⟨Nat.zero_le _, Nat.zero_le _⟩ dX10_feed_33 (fun H locs hP hD hS => ?_)
    refine lv_aload_n X.hx X.hb dX10_feed_36 rfl (lv_at hl 0 rfl) ?_
    refine gf_X10_10 X hP 0 rfl (v := .ref (uT 0)) rfl dX10_feed_37 ?_
    refine lv_iload X.hx X.hb dX10_feed_40 (lv_at hl 4 rfl) ?_
    obtain ⟨⟨sT_13, iT_14⟩, hc_15, hf⟩ := bd_i hf
    refine r_bvv (gX G uX (uT 0) xX1 xX2 xX3 xX4 xX7 xX8 xX9 xX10 xX11 xX12 xX13 qX iX) ([] : va_W) (As := [.int p4]) (rest := []) X sm_X10_108 (c_X8_append l G N uT sT_10 iT_11 jT p4 hc_15) hP hD hS hA (by simp only [List.append_assoc, List.append_nil, List.nil_append]) (wo := (gX G uX (uT 0) xX1 xX2 xX3 xX4 xX7 xX8 xX9 xX10 xX11 xX12 xX13 qX iX ++ gT G uT sT_13 iT_14 jT)) (by simp only [List.append_assoc, List.append_nil, List.nil_append]) 0 rfl rfl rfl hl.1 (lv_room (Nat.le_of_ble_eq_true rfl)) ⟨Nat.le_of_ble_eq_true rfl, Nat.le_of_ble_eq_true rfl⟩ ⟨Nat.zero_le _, Nat.zero_le _⟩ dX10_feed_42 (fun H locs hP hD hS => ?_)
    refine lv_aload_n X.hx X.hb dX10_feed_45 rfl (lv_at hl 0 rfl) ?_
    refine gf_X10_10 X hP 0 rfl (v := .ref (uT 0)) rfl dX10_feed_46 ?_
    refine lv_iload X.hx X.hb dX10_feed_49 (lv_at hl 5 rfl) ?_
    obtain ⟨⟨sT_16, iT_17⟩, hc_18, hf⟩ := bd_i hf
    refine r_bvv (gX G uX (uT 0) xX1 xX2 xX3 xX4 xX7 xX8 xX9 xX10 xX11 xX12 xX13 qX iX) ([] : va_W) (As := [.int p5]) (rest := []) X sm_X10_108 (c_X8_append l G N uT sT_13 iT_14 jT p5 hc_18) hP hD hS hA (by simp only [List.append_assoc, List.append_nil, List.nil_append]) (wo := (gX G uX (uT 0) xX1 xX2 xX3 xX4 xX7 xX8 xX9 xX10 xX11 xX12 xX13 qX iX ++ gT G uT sT_16 iT_17 jT)) (by simp only [List.append_assoc, List.append_nil, List.nil_append]) 0 rfl rfl rfl hl.1 (lv_room (Nat.le_of_ble_eq_true rfl)) ⟨Nat.le_of_ble_eq_true rfl, Nat.le_of_ble_eq_true rfl⟩ ⟨Nat.zero_le _, Nat.zero_le _⟩ dX10_feed_51 (fun H locs hP hD hS => ?_)
    refine lv_aload_n X.hx X.hb dX10_feed_54 rfl (lv_at hl 0 rfl) ?_
    refine gf_X10_10 X hP 0 rfl (v := .ref (uT 0)) rfl dX10_feed_55 ?_
    refine gf_X10_112 X hP 2 rfl (v := .int (iT_17 1)) rfl dX10_feed_58 ?_
    cases hf
    subst hQ
    exact r_iret X hP hD hS dX10_feed_61
  · replace hf := if_t hf hc_3
    refine lv_iconst (v := (-1)) X.hx X.hb dX10_feed_10 (by decide) ?_
    cases hf
    subst hQ
    exact r_iret X hP hD hS dX10_feed_11

def f_X10_end (N : Nat) (qX : Nat → Option Nat) (iX : Nat → Int32) (sT : Nat → Nat → Int32) (iT : Nat → Int32) (jT : Nat → Int64) (p1 : Int32) : Option (Int32 × (Nat → Int32)) :=
  (if p1 < 0 then some (0, iT) else (if p1 ≤ (iT 1) then some (1, (va_up iT 1 p1)) else some (0, iT)))
set_option maxHeartbeats 4000000 in
set_option maxRecDepth 100000 in
theorem c_X10_end (l : Launch) (G : GT) (N : Nat) (uX uT : Nat → Nat) (xX1 xX2 xX3 xX4 xX7 xX8 xX9 xX10 xX11 xX12 xX13 : Nat) (qX : Nat → Option Nat) (iX : Nat → Int32) (sT : Nat → Nat → Int32) (iT : Nat → Int32) (jT : Nat → Int64) (p1 : Int32) {r : Int32} {iT' : Nat → Int32} (hf : f_X10_end N qX iX sT iT jT p1 = some (r, iT')) : CI l G yX10_end cX10_end 2 .boolean 1 [.ref (uX 0), .int p1] (gX G uX (uT 0) xX1 xX2 xX3 xX4 xX7 xX8 xX9 xX10 xX11 xX12 xX13 qX iX ++ gT G uT sT iT jT) r (gX G uX (uT 0) xX1 xX2 xX3 xX4 xX7 xX8 xX9 xX10 xX11 xX12 xX13 qX iX ++ gT G uT sT iT' jT) := by
  refine CI.of (by decide) (Nat.le_of_ble_eq_true rfl) ?_
  intro p e s m args below meth c A X hA hP hD hS ls hl
  have hl : lv_has ls 2 [(0, .ref (uX 0)), (1, .int p1)] := hl
  generalize hQ : MQ below (QI G A r (gX G uX (uT 0) xX1 xX2 xX3 xX4 xX7 xX8 xX9 xX10 xX11 xX12 xX13 qX iX ++ gT G uT sT iT' jT)) args s 0 0 A = QQ
  unfold f_X10_end at hf
  refine lv_iload_n X.hx X.hb dX10_end_0 rfl (lv_at hl 1 rfl) ?_
  refine lv_if_lt (tgt := 15) X.hx X.hb dX10_end_1 (by decide) (fun hc_1 => ?_) (fun hc_1 => ?_)
  · replace hf := if_t hf hc_1
    refine lv_iconst (v := 0) X.hx X.hb dX10_end_15 (by decide) ?_
    cases hf
    subst hQ
    exact r_zret X hP hD hS (by decide) dX10_end_16
  · replace hf := if_f hf hc_1
    refine lv_iload_n X.hx X.hb dX10_end_4 rfl (lv_at hl 1 rfl) ?_
    refine lv_aload_n X.hx X.hb dX10_end_5 rfl (lv_at hl 0 rfl) ?_
    refine gf_X10_10 X hP 0 rfl (v := .ref (uT 0)) rfl dX10_end_6 ?_
    refine gf_X10_112 X hP 2 rfl (v := .int (iT 1)) rfl dX10_end_9 ?_
    refine lv_icmp_le (tgt := 17) X.hx X.hb dX10_end_12 (by decide) (fun hc_2 => ?_) (fun hc_2 => ?_)
    · replace hf := if_t hf hc_2
      refine lv_aload_n X.hx X.hb dX10_end_17 rfl (lv_at hl 0 rfl) ?_
      refine gf_X10_10 X hP 0 rfl (v := .ref (uT 0)) rfl dX10_end_18 ?_
      refine lv_iload_n X.hx X.hb dX10_end_21 rfl (lv_at hl 1 rfl) ?_
      refine pf_X10_112 X hP hD hS 2 rfl rfl rfl (Nat.le_of_ble_eq_true rfl) (wo := (gX G uX (uT 0) xX1 xX2 xX3 xX4 xX7 xX8 xX9 xX10 xX11 xX12 xX13 qX iX ++ gT G uT sT (va_up iT 1 p1) jT)) rfl dX10_end_22 (fun H locs hP hD hS => ?_)
      refine lv_iconst (v := 1) X.hx X.hb dX10_end_25 (by decide) ?_
      cases hf
      subst hQ
      exact r_zret X hP hD hS (by decide) dX10_end_26
    · replace hf := if_f hf hc_2
      refine lv_iconst (v := 0) X.hx X.hb dX10_end_15 (by decide) ?_
      cases hf
      subst hQ
      exact r_zret X hP hD hS (by decide) dX10_end_16

def f_X10_fault (N : Nat) (qX : Nat → Option Nat) (iX : Nat → Int32) (sT : Nat → Nat → Int32) (iT : Nat → Int32) (jT : Nat → Int64) : Option (Int32) :=
  some (iT 11)
set_option maxHeartbeats 4000000 in
set_option maxRecDepth 100000 in
theorem c_X10_fault (l : Launch) (G : GT) (N : Nat) (uX uT : Nat → Nat) (xX1 xX2 xX3 xX4 xX7 xX8 xX9 xX10 xX11 xX12 xX13 : Nat) (qX : Nat → Option Nat) (iX : Nat → Int32) (sT : Nat → Nat → Int32) (iT : Nat → Int32) (jT : Nat → Int64) {r : Int32} (hf : f_X10_fault N qX iX sT iT jT = some r) : CI l G yX10_fault cX10_fault 1 .int 1 [.ref (uX 0)] (gX G uX (uT 0) xX1 xX2 xX3 xX4 xX7 xX8 xX9 xX10 xX11 xX12 xX13 qX iX ++ gT G uT sT iT jT) r (gX G uX (uT 0) xX1 xX2 xX3 xX4 xX7 xX8 xX9 xX10 xX11 xX12 xX13 qX iX ++ gT G uT sT iT jT) := by
  refine CI.of (by decide) (Nat.le_of_ble_eq_true rfl) ?_
  intro p e s m args below meth c A X hA hP hD hS ls hl
  have hl : lv_has ls 1 [(0, .ref (uX 0))] := hl
  generalize hQ : MQ below (QI G A r (gX G uX (uT 0) xX1 xX2 xX3 xX4 xX7 xX8 xX9 xX10 xX11 xX12 xX13 qX iX ++ gT G uT sT iT jT)) args s 0 0 A = QQ
  unfold f_X10_fault at hf
  refine lv_aload_n X.hx X.hb dX10_fault_0 rfl (lv_at hl 0 rfl) ?_
  refine gf_X10_10 X hP 0 rfl (v := .ref (uT 0)) rfl dX10_fault_1 ?_
  refine gf_X10_131 X hP 2 rfl (v := .int (iT 11)) rfl dX10_fault_4 ?_
  cases hf
  subst hQ
  exact r_iret X hP hD hS dX10_fault_7

def f_X10_county (N : Nat) (qX : Nat → Option Nat) (iX : Nat → Int32) (iM : Nat → Int32) (sM : Nat → Nat → Int32) (iC : Nat → Int32) (tC : Nat → Nat → Int64) (sC : Nat → Nat → Int32) (iC2 : Nat → Int32) (tC2 : Nat → Nat → Int64) (sC2 : Nat → Nat → Int32) (iS : Nat → Int32) (sS : Nat → Nat → Int32) (iR : Nat → Int32) (sT : Nat → Nat → Int32) (iT : Nat → Int32) (jT : Nat → Int64) : Option (Int32 × (Nat → Int32) × (Nat → Int32) × (Nat → Nat → Int32) × (Nat → Int32) × (Nat → Nat → Int64) × (Nat → Nat → Int32) × (Nat → Int32) × (Nat → Nat → Int64) × (Nat → Nat → Int32) × (Nat → Int32) × (Nat → Int32) × (Nat → Int32) × (Nat → Int64)) :=
  bd (f_X2_readText N iR sT iT jT iC2 tC2 sC2) (fun (r_1, iR_2, iT_3, jT_4, iC2_5, tC2_6, sC2_7) => (if r_1 = (-1) then some (((-1 : Int32) - (iT_3 12)), iX, iM, sM, iC, tC, sC, iC2_5, tC2_6, sC2_7, iS, iR_2, (va_up iT_3 1 0), jT_4) else bd (f_X1_copyFrom N iC tC sC iC2_5 tC2_6 sC2_7) (fun (iC_10, tC_11, sC_12) => bd (f_X4_begin N iM sM iC_10 tC_11 sC_12) (fun (iM_14, sM_15) => bd (f_X6_clear N iS sS) (fun iS_17 => some (r_1, (va_up iX 6 0), iM_14, sM_15, iC_10, tC_11, sC_12, iC2_5, tC2_6, sC2_7, iS_17, iR_2, (va_up iT_3 1 0), jT_4))))))
set_option maxHeartbeats 4000000 in
set_option maxRecDepth 100000 in
theorem c_X10_county (l : Launch) (G : GT) (N : Nat) (uX uM uC uC2 uS uR uT : Nat → Nat) (xX4 xX7 xX8 xX9 xX11 xX12 xX13 : Nat) (qX : Nat → Option Nat) (iX : Nat → Int32) (iM : Nat → Int32) (sM : Nat → Nat → Int32) (iC : Nat → Int32) (tC : Nat → Nat → Int64) (sC : Nat → Nat → Int32) (iC2 : Nat → Int32) (tC2 : Nat → Nat → Int64) (sC2 : Nat → Nat → Int32) (iS : Nat → Int32) (sS : Nat → Nat → Int32) (iR : Nat → Int32) (sT : Nat → Nat → Int32) (iT : Nat → Int32) (jT : Nat → Int64) {r : Int32} {iX' : Nat → Int32} {iM' : Nat → Int32} {sM' : Nat → Nat → Int32} {iC' : Nat → Int32} {tC' : Nat → Nat → Int64} {sC' : Nat → Nat → Int32} {iC2' : Nat → Int32} {tC2' : Nat → Nat → Int64} {sC2' : Nat → Nat → Int32} {iS' : Nat → Int32} {iR' : Nat → Int32} {iT' : Nat → Int32} {jT' : Nat → Int64} (hf : f_X10_county N qX iX iM sM iC tC sC iC2 tC2 sC2 iS sS iR sT iT jT = some (r, iX', iM', sM', iC', tC', sC', iC2', tC2', sC2', iS', iR', iT', jT')) : CI l G yX10_county cX10_county 2 .int 8 [.ref (uX 0)] (gX G uX (uT 0) (uC 0) (uR 0) (uM 0) xX4 xX7 xX8 xX9 (uS 0) xX11 xX12 xX13 qX iX ++ gM G uM (uC 0) iM sM ++ gC G uC iC tC sC ++ gC G uC2 iC2 tC2 sC2 ++ gS G uS iS sS ++ gR G uR (uT 0) (uC2 0) iR ++ gT G uT sT iT jT) r (gX G uX (uT 0) (uC 0) (uR 0) (uM 0) xX4 xX7 xX8 xX9 (uS 0) xX11 xX12 xX13 qX iX' ++ gM G uM (uC 0) iM' sM' ++ gC G uC iC' tC' sC' ++ gC G uC2 iC2' tC2' sC2' ++ gS G uS iS' sS ++ gR G uR (uT 0) (uC2 0) iR' ++ gT G uT sT iT' jT') := by
  refine CI.of (by decide) (Nat.le_of_ble_eq_true rfl) ?_
  intro p e s m args below meth c A X hA hP hD hS ls hl
  have hl : lv_has ls 2 [(0, .ref (uX 0))] := hl
  generalize hQ : MQ below (QI G A r (gX G uX (uT 0) (uC 0) (uR 0) (uM 0) xX4 xX7 xX8 xX9 (uS 0) xX11 xX12 xX13 qX iX' ++ gM G uM (uC 0) iM' sM' ++ gC G uC iC' tC' sC' ++ gC G uC2 iC2' tC2' sC2' ++ gS G uS iS' sS ++ gR G uR (uT 0) (uC2 0) iR' ++ gT G uT sT iT' jT')) args s 0 0 A = QQ
  unfold f_X10_county at hf
  refine lv_aload_n X.hx X.hb dX10_county_0 rfl (lv_at hl 0 rfl) ?_
  refine gf_X10_28 X hP 0 (get_blk (L := ([] : va_W)) (g := (gX G uX (uT 0) (uC 0) (uR 0) (uM 0) xX4 xX7 xX8 xX9 (uS 0) xX11 xX12 xX13 qX iX)) (R := (gM G uM (uC 0) iM sM ++ gC G uC iC tC sC ++ gC G uC2 iC2 tC2 sC2 ++ gS G uS iS sS ++ gR G uR (uT 0) (uC2 0) iR ++ gT G uT sT iT jT)) (k := 0) (by simp only [List.append_assoc, List.append_nil, List.nil_append]) rfl rfl) (v := .ref (uR 0)) rfl dX10_county_1 ?_
  obtain ⟨⟨r_1, iR_2, iT_3, jT_4, iC2_5, tC2_6, sC2_7⟩, hc_8, hf⟩ := bd_i hf
  refine r_pvi [gX G uX (uT 0) (uC 0) (uR 0) (uM 0) xX4 xX7 xX8 xX9 (uS 0) xX11 xX12 xX13 qX iX, gM G uM (uC 0) iM sM, gC G uC iC tC sC, gC G uC2 iC2 tC2 sC2, gS G uS iS sS, gR G uR (uT 0) (uC2 0) iR, gT G uT sT iT jT] [gX G uX (uT 0) (uC 0) (uR 0) (uM 0) xX4 xX7 xX8 xX9 (uS 0) xX11 xX12 xX13 qX iX, gM G uM (uC 0) iM sM, gC G uC iC tC sC, gC G uC2 iC2_5 tC2_6 sC2_7, gS G uS iS sS, gR G uR (uT 0) (uC2 0) iR_2, gT G uT sT iT_3 jT_4] [gR G uR (uT 0) (uC2 0) iR, gT G uT sT iT jT, gC G uC2 iC2 tC2 sC2] [gR G uR (uT 0) (uC2 0) iR_2, gT G uT sT iT_3 jT_4, gC G uC2 iC2_5 tC2_6 sC2_7] [gX G uX (uT 0) (uC 0) (uR 0) (uM 0) xX4 xX7 xX8 xX9 (uS 0) xX11 xX12 xX13 qX iX, gM G uM (uC 0) iM sM, gC G uC iC tC sC, gS G uS iS sS] 7 [5, 6, 3] [0, 1, 2, 4] (As := []) (rest := []) X sm_X10_115 (c_X2_readText l G N uR uT uC2 iR sT iT jT iC2 tC2 sC2 hc_8) hP hD hS hA rfl rfl (by decide) (by simp only [List.flatten_cons, List.flatten_nil, List.append_assoc, List.append_nil]) rfl (by simp only [List.flatten_cons, List.flatten_nil, List.append_assoc, List.append_nil]) rfl (by simp only [List.flatten_cons, List.flatten_nil, List.append_assoc, List.append_nil]) rfl rfl (wo := (gX G uX (uT 0) (uC 0) (uR 0) (uM 0) xX4 xX7 xX8 xX9 (uS 0) xX11 xX12 xX13 qX iX ++ gM G uM (uC 0) iM sM ++ gC G uC iC tC sC ++ gC G uC2 iC2_5 tC2_6 sC2_7 ++ gS G uS iS sS ++ gR G uR (uT 0) (uC2 0) iR_2 ++ gT G uT sT iT_3 jT_4)) (by simp only [List.flatten_cons, List.flatten_nil, List.append_assoc, List.append_nil]) 0 rfl rfl rfl hl.1 (lv_room (Nat.le_of_ble_eq_true rfl)) ⟨Nat.le_of_ble_eq_true rfl, Nat.le_of_ble_eq_true rfl⟩ ⟨Nat.zero_le _, Nat.zero_le _⟩ dX10_county_4 (fun H locs hP hD hS => ?_)
  refine lv_istore_n (lv' := [(1, .int r_1), (0, .ref (uX 0))]) X.hx X.hb dX10_county_7 rfl hl (by decide) rfl (fun ls hl => ?_)
  refine lv_aload_n X.hx X.hb dX10_county_8 rfl (lv_at hl 1 rfl) ?_
  refine gf_X10_10 X hP 0 (get_blk (L := ([] : va_W)) (g := (gX G uX (uT 0) (uC 0) (uR 0) (uM 0) xX4 xX7 xX8 xX9 (uS 0) xX11 xX12 xX13 qX iX)) (R := (gM G uM (uC 0) iM sM ++ gC G uC iC tC sC ++ gC G uC2 iC2_5 tC2_6 sC2_7 ++ gS G uS iS sS ++ gR G uR (uT 0) (uC2 0) iR_2 ++ gT G uT sT iT_3 jT_4)) (k := 0) (by simp only [List.append_assoc, List.append_nil, List.nil_append]) rfl rfl) (v := .ref (uT 0)) rfl dX10_county_9 ?_
  refine lv_iconst (v := 0) X.hx X.hb dX10_county_12 (by decide) ?_
  refine pf_X10_112 X hP hD hS 31 (get_blk (L := (gX G uX (uT 0) (uC 0) (uR 0) (uM 0) xX4 xX7 xX8 xX9 (uS 0) xX11 xX12 xX13 qX iX ++ gM G uM (uC 0) iM sM ++ gC G uC iC tC sC ++ gC G uC2 iC2_5 tC2_6 sC2_7 ++ gS G uS iS sS ++ gR G uR (uT 0) (uC2 0) iR_2)) (g := (gT G uT sT iT_3 jT_4)) (R := ([] : va_W)) (k := 0) (by simp only [List.append_assoc, List.append_nil, List.nil_append]) rfl rfl) rfl rfl (Nat.le_of_ble_eq_true rfl) (wo := (gX G uX (uT 0) (uC 0) (uR 0) (uM 0) xX4 xX7 xX8 xX9 (uS 0) xX11 xX12 xX13 qX iX ++ gM G uM (uC 0) iM sM ++ gC G uC iC tC sC ++ gC G uC2 iC2_5 tC2_6 sC2_7 ++ gS G uS iS sS ++ gR G uR (uT 0) (uC2 0) iR_2 ++ gT G uT sT (va_up iT_3 1 0) jT_4)) (set_blk (L := (gX G uX (uT 0) (uC 0) (uR 0) (uM 0) xX4 xX7 xX8 xX9 (uS 0) xX11 xX12 xX13 qX iX ++ gM G uM (uC 0) iM sM ++ gC G uC iC tC sC ++ gC G uC2 iC2_5 tC2_6 sC2_7 ++ gS G uS iS sS ++ gR G uR (uT 0) (uC2 0) iR_2)) (g := (gT G uT sT iT_3 jT_4)) (R := ([] : va_W)) (g' := (gT G uT sT (va_up iT_3 1 0) jT_4)) (k := 0) (by simp only [List.append_assoc, List.append_nil, List.nil_append]) rfl (Nat.le_of_ble_eq_true rfl) rfl (by simp only [List.append_assoc, List.append_nil, List.nil_append])) dX10_county_13 (fun H locs hP hD hS => ?_)
  refine lv_iload_n X.hx X.hb dX10_county_16 rfl (lv_at hl 0 rfl) ?_
  refine lv_iconst (v := (-1)) X.hx X.hb dX10_county_17 (by decide) ?_
  refine lv_icmp_ne (tgt := 31) X.hx X.hb dX10_county_18 (by decide) (fun hc_9 => ?_) (fun hc_9 => ?_)
  · replace hf := if_f hf hc_9
    refine lv_aload_n X.hx X.hb dX10_county_31 rfl (lv_at hl 1 rfl) ?_
    refine gf_X10_19 X hP 0 (get_blk (L := ([] : va_W)) (g := (gX G uX (uT 0) (uC 0) (uR 0) (uM 0) xX4 xX7 xX8 xX9 (uS 0) xX11 xX12 xX13 qX iX)) (R := (gM G uM (uC 0) iM sM ++ gC G uC iC tC sC ++ gC G uC2 iC2_5 tC2_6 sC2_7 ++ gS G uS iS sS ++ gR G uR (uT 0) (uC2 0) iR_2 ++ gT G uT sT (va_up iT_3 1 0) jT_4)) (k := 0) (by simp only [List.append_assoc, List.append_nil, List.nil_append]) rfl rfl) (v := .ref (uC 0)) rfl dX10_county_32 ?_
    refine lv_aload_n X.hx X.hb dX10_county_35 rfl (lv_at hl 1 rfl) ?_
    refine gf_X10_28 X hP 0 (get_blk (L := ([] : va_W)) (g := (gX G uX (uT 0) (uC 0) (uR 0) (uM 0) xX4 xX7 xX8 xX9 (uS 0) xX11 xX12 xX13 qX iX)) (R := (gM G uM (uC 0) iM sM ++ gC G uC iC tC sC ++ gC G uC2 iC2_5 tC2_6 sC2_7 ++ gS G uS iS sS ++ gR G uR (uT 0) (uC2 0) iR_2 ++ gT G uT sT (va_up iT_3 1 0) jT_4)) (k := 0) (by simp only [List.append_assoc, List.append_nil, List.nil_append]) rfl rfl) (v := .ref (uR 0)) rfl dX10_county_36 ?_
    refine gf_X10_122 X hP 30 (get_blk (L := (gX G uX (uT 0) (uC 0) (uR 0) (uM 0) xX4 xX7 xX8 xX9 (uS 0) xX11 xX12 xX13 qX iX ++ gM G uM (uC 0) iM sM ++ gC G uC iC tC sC ++ gC G uC2 iC2_5 tC2_6 sC2_7 ++ gS G uS iS sS)) (g := (gR G uR (uT 0) (uC2 0) iR_2)) (R := (gT G uT sT (va_up iT_3 1 0) jT_4)) (k := 0) (by simp only [List.append_assoc, List.append_nil, List.nil_append]) rfl rfl) (v := .ref (uC2 0)) rfl dX10_county_39 ?_
    obtain ⟨⟨iC_10, tC_11, sC_12⟩, hc_13, hf⟩ := bd_i hf
    refine r_bvv (gX G uX (uT 0) (uC 0) (uR 0) (uM 0) xX4 xX7 xX8 xX9 (uS 0) xX11 xX12 xX13 qX iX ++ gM G uM (uC 0) iM sM) (gS G uS iS sS ++ gR G uR (uT 0) (uC2 0) iR_2 ++ gT G uT sT (va_up iT_3 1 0) jT_4) (As := [.ref (uC2 0)]) (rest := []) X sm_X10_125 (c_X1_copyFrom l G N uC uC2 iC tC sC iC2_5 tC2_6 sC2_7 hc_13) hP hD hS hA (by simp only [List.append_assoc, List.append_nil, List.nil_append]) (wo := (gX G uX (uT 0) (uC 0) (uR 0) (uM 0) xX4 xX7 xX8 xX9 (uS 0) xX11 xX12 xX13 qX iX ++ gM G uM (uC 0) iM sM ++ gC G uC iC_10 tC_11 sC_12 ++ gC G uC2 iC2_5 tC2_6 sC2_7 ++ gS G uS iS sS ++ gR G uR (uT 0) (uC2 0) iR_2 ++ gT G uT sT (va_up iT_3 1 0) jT_4)) (by simp only [List.append_assoc, List.append_nil, List.nil_append]) 0 rfl rfl rfl hl.1 (lv_room (Nat.le_of_ble_eq_true rfl)) ⟨Nat.le_of_ble_eq_true rfl, Nat.le_of_ble_eq_true rfl⟩ ⟨Nat.zero_le _, Nat.zero_le _⟩ dX10_county_42 (fun H locs hP hD hS => ?_)
    refine lv_aload_n X.hx X.hb dX10_county_45 rfl (lv_at hl 1 rfl) ?_
    refine gf_X10_37 X hP 0 (get_blk (L := ([] : va_W)) (g := (gX G uX (uT 0) (uC 0) (uR 0) (uM 0) xX4 xX7 xX8 xX9 (uS 0) xX11 xX12 xX13 qX iX)) (R := (gM G uM (uC 0) iM sM ++ gC G uC iC_10 tC_11 sC_12 ++ gC G uC2 iC2_5 tC2_6 sC2_7 ++ gS G uS iS sS ++ gR G uR (uT 0) (uC2 0) iR_2 ++ gT G uT sT (va_up iT_3 1 0) jT_4)) (k := 0) (by simp only [List.append_assoc, List.append_nil, List.nil_append]) rfl rfl) (v := .ref (uM 0)) rfl dX10_county_46 ?_
    obtain ⟨⟨iM_14, sM_15⟩, hc_16, hf⟩ := bd_i hf
    refine r_bvv (gX G uX (uT 0) (uC 0) (uR 0) (uM 0) xX4 xX7 xX8 xX9 (uS 0) xX11 xX12 xX13 qX iX) (gC G uC2 iC2_5 tC2_6 sC2_7 ++ gS G uS iS sS ++ gR G uR (uT 0) (uC2 0) iR_2 ++ gT G uT sT (va_up iT_3 1 0) jT_4) (As := []) (rest := []) X sm_X10_101 (c_X4_begin l G N uM uC iM sM iC_10 tC_11 sC_12 hc_16) hP hD hS hA (by simp only [List.append_assoc, List.append_nil, List.nil_append]) (wo := (gX G uX (uT 0) (uC 0) (uR 0) (uM 0) xX4 xX7 xX8 xX9 (uS 0) xX11 xX12 xX13 qX iX ++ gM G uM (uC 0) iM_14 sM_15 ++ gC G uC iC_10 tC_11 sC_12 ++ gC G uC2 iC2_5 tC2_6 sC2_7 ++ gS G uS iS sS ++ gR G uR (uT 0) (uC2 0) iR_2 ++ gT G uT sT (va_up iT_3 1 0) jT_4)) (by simp only [List.append_assoc, List.append_nil, List.nil_append]) 0 rfl rfl rfl hl.1 (lv_room (Nat.le_of_ble_eq_true rfl)) ⟨Nat.le_of_ble_eq_true rfl, Nat.le_of_ble_eq_true rfl⟩ ⟨Nat.zero_le _, Nat.zero_le _⟩ dX10_county_49 (fun H locs hP hD hS => ?_)
    refine lv_aload_n X.hx X.hb dX10_county_52 rfl (lv_at hl 1 rfl) ?_
    refine gf_X10_80 X hP 0 (get_blk (L := ([] : va_W)) (g := (gX G uX (uT 0) (uC 0) (uR 0) (uM 0) xX4 xX7 xX8 xX9 (uS 0) xX11 xX12 xX13 qX iX)) (R := (gM G uM (uC 0) iM_14 sM_15 ++ gC G uC iC_10 tC_11 sC_12 ++ gC G uC2 iC2_5 tC2_6 sC2_7 ++ gS G uS iS sS ++ gR G uR (uT 0) (uC2 0) iR_2 ++ gT G uT sT (va_up iT_3 1 0) jT_4)) (k := 0) (by simp only [List.append_assoc, List.append_nil, List.nil_append]) rfl rfl) (v := .ref (uS 0)) rfl dX10_county_53 ?_
    obtain ⟨iS_17, hc_18, hf⟩ := bd_i hf
    refine r_bvv (gX G uX (uT 0) (uC 0) (uR 0) (uM 0) xX4 xX7 xX8 xX9 (uS 0) xX11 xX12 xX13 qX iX ++ gM G uM (uC 0) iM_14 sM_15 ++ gC G uC iC_10 tC_11 sC_12 ++ gC G uC2 iC2_5 tC2_6 sC2_7) (gR G uR (uT 0) (uC2 0) iR_2 ++ gT G uT sT (va_up iT_3 1 0) jT_4) (As := []) (rest := []) X sm_X10_128 (c_X6_clear l G N uS iS sS hc_18) hP hD hS hA (by simp only [List.append_assoc, List.append_nil, List.nil_append]) (wo := (gX G uX (uT 0) (uC 0) (uR 0) (uM 0) xX4 xX7 xX8 xX9 (uS 0) xX11 xX12 xX13 qX iX ++ gM G uM (uC 0) iM_14 sM_15 ++ gC G uC iC_10 tC_11 sC_12 ++ gC G uC2 iC2_5 tC2_6 sC2_7 ++ gS G uS iS_17 sS ++ gR G uR (uT 0) (uC2 0) iR_2 ++ gT G uT sT (va_up iT_3 1 0) jT_4)) (by simp only [List.append_assoc, List.append_nil, List.nil_append]) 0 rfl rfl rfl hl.1 (lv_room (Nat.le_of_ble_eq_true rfl)) ⟨Nat.le_of_ble_eq_true rfl, Nat.le_of_ble_eq_true rfl⟩ ⟨Nat.zero_le _, Nat.zero_le _⟩ dX10_county_56 (fun H locs hP hD hS => ?_)
    refine lv_aload_n X.hx X.hb dX10_county_59 rfl (lv_at hl 1 rfl) ?_
    refine lv_iconst (v := 0) X.hx X.hb dX10_county_60 (by decide) ?_
    refine pf_X10_48 X hP hD hS 0 (get_blk (L := ([] : va_W)) (g := (gX G uX (uT 0) (uC 0) (uR 0) (uM 0) xX4 xX7 xX8 xX9 (uS 0) xX11 xX12 xX13 qX iX)) (R := (gM G uM (uC 0) iM_14 sM_15 ++ gC G uC iC_10 tC_11 sC_12 ++ gC G uC2 iC2_5 tC2_6 sC2_7 ++ gS G uS iS_17 sS ++ gR G uR (uT 0) (uC2 0) iR_2 ++ gT G uT sT (va_up iT_3 1 0) jT_4)) (k := 0) (by simp only [List.append_assoc, List.append_nil, List.nil_append]) rfl rfl) rfl rfl (Nat.le_of_ble_eq_true rfl) (wo := (gX G uX (uT 0) (uC 0) (uR 0) (uM 0) xX4 xX7 xX8 xX9 (uS 0) xX11 xX12 xX13 qX (va_up iX 6 0) ++ gM G uM (uC 0) iM_14 sM_15 ++ gC G uC iC_10 tC_11 sC_12 ++ gC G uC2 iC2_5 tC2_6 sC2_7 ++ gS G uS iS_17 sS ++ gR G uR (uT 0) (uC2 0) iR_2 ++ gT G uT sT (va_up iT_3 1 0) jT_4)) (set_blk (L := ([] : va_W)) (g := (gX G uX (uT 0) (uC 0) (uR 0) (uM 0) xX4 xX7 xX8 xX9 (uS 0) xX11 xX12 xX13 qX iX)) (R := (gM G uM (uC 0) iM_14 sM_15 ++ gC G uC iC_10 tC_11 sC_12 ++ gC G uC2 iC2_5 tC2_6 sC2_7 ++ gS G uS iS_17 sS ++ gR G uR (uT 0) (uC2 0) iR_2 ++ gT G uT sT (va_up iT_3 1 0) jT_4)) (g' := (gX G uX (uT 0) (uC 0) (uR 0) (uM 0) xX4 xX7 xX8 xX9 (uS 0) xX11 xX12 xX13 qX (va_up iX 6 0))) (k := 0) (by simp only [List.append_assoc, List.append_nil, List.nil_append]) rfl (Nat.le_of_ble_eq_true rfl) rfl (by simp only [List.append_assoc, List.append_nil, List.nil_append])) dX10_county_61 (fun H locs hP hD hS => ?_)
    refine lv_iload_n X.hx X.hb dX10_county_64 rfl (lv_at hl 0 rfl) ?_
    cases hf
    subst hQ
    exact r_iret X hP hD hS dX10_county_65
  · replace hf := if_t hf hc_9
    refine lv_iconst (v := (-1)) X.hx X.hb dX10_county_21 (by decide) ?_
    refine lv_aload_n X.hx X.hb dX10_county_22 rfl (lv_at hl 1 rfl) ?_
    refine gf_X10_10 X hP 0 (get_blk (L := ([] : va_W)) (g := (gX G uX (uT 0) (uC 0) (uR 0) (uM 0) xX4 xX7 xX8 xX9 (uS 0) xX11 xX12 xX13 qX iX)) (R := (gM G uM (uC 0) iM sM ++ gC G uC iC tC sC ++ gC G uC2 iC2_5 tC2_6 sC2_7 ++ gS G uS iS sS ++ gR G uR (uT 0) (uC2 0) iR_2 ++ gT G uT sT (va_up iT_3 1 0) jT_4)) (k := 0) (by simp only [List.append_assoc, List.append_nil, List.nil_append]) rfl rfl) (v := .ref (uT 0)) rfl dX10_county_23 ?_
    refine gf_X10_119 X hP 31 (get_blk (L := (gX G uX (uT 0) (uC 0) (uR 0) (uM 0) xX4 xX7 xX8 xX9 (uS 0) xX11 xX12 xX13 qX iX ++ gM G uM (uC 0) iM sM ++ gC G uC iC tC sC ++ gC G uC2 iC2_5 tC2_6 sC2_7 ++ gS G uS iS sS ++ gR G uR (uT 0) (uC2 0) iR_2)) (g := (gT G uT sT (va_up iT_3 1 0) jT_4)) (R := ([] : va_W)) (k := 0) (by simp only [List.append_assoc, List.append_nil, List.nil_append]) rfl rfl) (v := .int (iT_3 12)) rfl dX10_county_26 ?_
    refine lv_isub X.hx X.hb dX10_county_29 ?_
    obtain ⟨rfl, he_0⟩ := Prod.mk.inj (Option.some.inj hf)
    obtain ⟨rfl, he_1⟩ := Prod.mk.inj he_0
    obtain ⟨rfl, he_2⟩ := Prod.mk.inj he_1
    obtain ⟨rfl, he_3⟩ := Prod.mk.inj he_2
    obtain ⟨rfl, he_4⟩ := Prod.mk.inj he_3
    obtain ⟨rfl, he_5⟩ := Prod.mk.inj he_4
    obtain ⟨rfl, he_6⟩ := Prod.mk.inj he_5
    obtain ⟨rfl, he_7⟩ := Prod.mk.inj he_6
    obtain ⟨rfl, he_8⟩ := Prod.mk.inj he_7
    obtain ⟨rfl, he_9⟩ := Prod.mk.inj he_8
    obtain ⟨rfl, he_10⟩ := Prod.mk.inj he_9
    obtain ⟨rfl, he_11⟩ := Prod.mk.inj he_10
    obtain ⟨rfl, he_12⟩ := Prod.mk.inj he_11
    subst he_12
    subst hQ
    exact r_iret X hP hD hS dX10_county_30

def f_X10_good (N : Nat) (qX : Nat → Option Nat) (iX : Nat → Int32) (iM : Nat → Int32) (sM : Nat → Nat → Int32) (iC : Nat → Int32) (tC : Nat → Nat → Int64) (sC : Nat → Nat → Int32) (p1 : Int32) (p2 : Int32) (p3 : Int32) : Option (Int32) :=
  bd (f_X1_isPerson N iC tC sC p1) (fun r_1 => (if r_1 = 0 then some (-1) else bd (f_X1_isGood N iC tC sC p2) (fun r_4 => (if r_4 = 0 then some (-1) else bd (f_X10_cellOf N p1 p2) (fun r_7 => (if p3 = 0 then ck r_7 35 (some ((sM 9) (ix r_7))) else (if p3 = 1 then ck r_7 35 (some ((sM 10) (ix r_7))) else (if p3 = 2 then ck r_7 35 (some ((sC 8) (ix r_7))) else some (-1)))))))))
set_option maxHeartbeats 4000000 in
set_option maxRecDepth 100000 in
theorem c_X10_good (l : Launch) (G : GT) (N : Nat) (uX uM uC : Nat → Nat) (xX0 xX2 xX4 xX7 xX8 xX9 xX10 xX11 xX12 xX13 : Nat) (qX : Nat → Option Nat) (iX : Nat → Int32) (iM : Nat → Int32) (sM : Nat → Nat → Int32) (iC : Nat → Int32) (tC : Nat → Nat → Int64) (sC : Nat → Nat → Int32) (p1 : Int32) (p2 : Int32) (p3 : Int32) {r : Int32} (hf : f_X10_good N qX iX iM sM iC tC sC p1 p2 p3 = some r) : CI l G yX10_good cX10_good 5 .int 2 [.ref (uX 0), .int p1, .int p2, .int p3] (gX G uX xX0 (uC 0) xX2 (uM 0) xX4 xX7 xX8 xX9 xX10 xX11 xX12 xX13 qX iX ++ gM G uM (uC 0) iM sM ++ gC G uC iC tC sC) r (gX G uX xX0 (uC 0) xX2 (uM 0) xX4 xX7 xX8 xX9 xX10 xX11 xX12 xX13 qX iX ++ gM G uM (uC 0) iM sM ++ gC G uC iC tC sC) := by
  refine CI.of (by decide) (Nat.le_of_ble_eq_true rfl) ?_
  intro p e s m args below meth c A X hA hP hD hS ls hl
  have hl : lv_has ls 5 [(0, .ref (uX 0)), (1, .int p1), (2, .int p2), (3, .int p3)] := hl
  generalize hQ : MQ below (QI G A r (gX G uX xX0 (uC 0) xX2 (uM 0) xX4 xX7 xX8 xX9 xX10 xX11 xX12 xX13 qX iX ++ gM G uM (uC 0) iM sM ++ gC G uC iC tC sC)) args s 0 0 A = QQ
  unfold f_X10_good at hf
  refine lv_aload_n X.hx X.hb dX10_good_0 rfl (lv_at hl 0 rfl) ?_
  refine gf_X10_19 X hP 0 rfl (v := .ref (uC 0)) rfl dX10_good_1 ?_
  refine lv_iload_n X.hx X.hb dX10_good_4 rfl (lv_at hl 1 rfl) ?_
  obtain ⟨r_1, hc_2, hf⟩ := bd_i hf
  refine r_bvi (gX G uX xX0 (uC 0) xX2 (uM 0) xX4 xX7 xX8 xX9 xX10 xX11 xX12 xX13 qX iX ++ gM G uM (uC 0) iM sM) ([] : va_W) (As := [.int p1]) (rest := []) X sm_X10_134 (c_X1_isPerson l G N uC iC tC sC p1 hc_2) hP hD hS hA (by simp only [List.append_assoc, List.append_nil, List.nil_append]) (wo := (gX G uX xX0 (uC 0) xX2 (uM 0) xX4 xX7 xX8 xX9 xX10 xX11 xX12 xX13 qX iX ++ gM G uM (uC 0) iM sM ++ gC G uC iC tC sC)) (by simp only [List.append_assoc, List.append_nil, List.nil_append]) 0 rfl rfl rfl hl.1 (lv_room (Nat.le_of_ble_eq_true rfl)) ⟨Nat.le_of_ble_eq_true rfl, Nat.le_of_ble_eq_true rfl⟩ ⟨Nat.zero_le _, Nat.zero_le _⟩ dX10_good_5 (fun H locs hP hD hS => ?_)
  refine lv_if_eq (tgt := 22) X.hx X.hb dX10_good_8 (by decide) (fun hc_3 => ?_) (fun hc_3 => ?_)
  · replace hf := if_t hf hc_3
    refine lv_iconst (v := (-1)) X.hx X.hb dX10_good_22 (by decide) ?_
    cases hf
    subst hQ
    exact r_iret X hP hD hS dX10_good_23
  · replace hf := if_f hf hc_3
    refine lv_aload_n X.hx X.hb dX10_good_11 rfl (lv_at hl 0 rfl) ?_
    refine gf_X10_19 X hP 0 rfl (v := .ref (uC 0)) rfl dX10_good_12 ?_
    refine lv_iload_n X.hx X.hb dX10_good_15 rfl (lv_at hl 2 rfl) ?_
    obtain ⟨r_4, hc_5, hf⟩ := bd_i hf
    refine r_bvi (gX G uX xX0 (uC 0) xX2 (uM 0) xX4 xX7 xX8 xX9 xX10 xX11 xX12 xX13 qX iX ++ gM G uM (uC 0) iM sM) ([] : va_W) (As := [.int p2]) (rest := []) X sm_X10_167 (c_X1_isGood l G N uC iC tC sC p2 hc_5) hP hD hS hA (by simp only [List.append_assoc, List.append_nil, List.nil_append]) (wo := (gX G uX xX0 (uC 0) xX2 (uM 0) xX4 xX7 xX8 xX9 xX10 xX11 xX12 xX13 qX iX ++ gM G uM (uC 0) iM sM ++ gC G uC iC tC sC)) (by simp only [List.append_assoc, List.append_nil, List.nil_append]) 0 rfl rfl rfl hl.1 (lv_room (Nat.le_of_ble_eq_true rfl)) ⟨Nat.le_of_ble_eq_true rfl, Nat.le_of_ble_eq_true rfl⟩ ⟨Nat.zero_le _, Nat.zero_le _⟩ dX10_good_16 (fun H locs hP hD hS => ?_)
    refine lv_if_ne (tgt := 24) X.hx X.hb dX10_good_19 (by decide) (fun hc_6 => ?_) (fun hc_6 => ?_)
    · replace hf := if_f hf hc_6
      refine lv_iload_n X.hx X.hb dX10_good_24 rfl (lv_at hl 1 rfl) ?_
      refine lv_iload_n X.hx X.hb dX10_good_25 rfl (lv_at hl 2 rfl) ?_
      obtain ⟨r_7, hc_8, hf⟩ := bd_i hf
      refine r_cs0 (As := [.int p1, .int p2]) (rest := []) X sm_X10_170 (c_X10_cellOf l G N p1 p2 hc_8) hP hD hS hA rfl hl.1 (lv_room (Nat.le_of_ble_eq_true rfl)) ⟨Nat.le_of_ble_eq_true rfl, Nat.le_of_ble_eq_true rfl⟩ ⟨Nat.zero_le _, Nat.zero_le _⟩ dX10_good_26 (fun H locs hP hD hS => ?_)
      refine lv_istore (lv' := [(4, .int r_7), (0, .ref (uX 0)), (1, .int p1), (2, .int p2), (3, .int p3)]) X.hx X.hb dX10_good_29 hl (by decide) rfl (fun ls hl => ?_)
      refine lv_iload_n X.hx X.hb dX10_good_31 rfl (lv_at hl 4 rfl) ?_
      by_cases hc_9 : p3 = 0
      · replace hf := if_t hf hc_9
        refine lv_tableIn (tgt := 60) X.hx X.hb dX10_good_32 (by rw [hc_9]; decide) (by rw [hc_9]; decide) (by rw [hc_9]; rfl) (by decide) ?_
        refine lv_aload_n X.hx X.hb dX10_good_60 rfl (lv_at hl 1 rfl) ?_
        refine gf_X10_37 X hP 0 rfl (v := .ref (uM 0)) rfl dX10_good_61 ?_
        refine gf_X10_174 X hP 2 rfl (v := .ref (uM 10)) rfl dX10_good_64 ?_
        refine lv_iload X.hx X.hb dX10_good_67 (lv_at hl 0 rfl) ?_
        obtain ⟨hi_10, hf⟩ := ck_i hf
        refine r_iald X hP 6 (f := (sM 9)) rfl hi_10 dX10_good_69 ?_
        cases hf
        subst hQ
        exact r_iret X hP hD hS dX10_good_70
      replace hf := if_f hf hc_9
      by_cases hc_11 : p3 = 1
      · replace hf := if_t hf hc_11
        refine lv_tableIn (tgt := 71) X.hx X.hb dX10_good_32 (by rw [hc_11]; decide) (by rw [hc_11]; decide) (by rw [hc_11]; rfl) (by decide) ?_
        refine lv_aload_n X.hx X.hb dX10_good_71 rfl (lv_at hl 1 rfl) ?_
        refine gf_X10_37 X hP 0 rfl (v := .ref (uM 0)) rfl dX10_good_72 ?_
        refine gf_X10_177 X hP 2 rfl (v := .ref (uM 11)) rfl dX10_good_75 ?_
        refine lv_iload X.hx X.hb dX10_good_78 (lv_at hl 0 rfl) ?_
        obtain ⟨hi_12, hf⟩ := ck_i hf
        refine r_iald X hP 7 (f := (sM 10)) rfl hi_12 dX10_good_80 ?_
        cases hf
        subst hQ
        exact r_iret X hP hD hS dX10_good_81
      replace hf := if_f hf hc_11
      by_cases hc_13 : p3 = 2
      · replace hf := if_t hf hc_13
        refine lv_tableIn (tgt := 82) X.hx X.hb dX10_good_32 (by rw [hc_13]; decide) (by rw [hc_13]; decide) (by rw [hc_13]; rfl) (by decide) ?_
        refine lv_aload_n X.hx X.hb dX10_good_82 rfl (lv_at hl 1 rfl) ?_
        refine gf_X10_19 X hP 0 rfl (v := .ref (uC 0)) rfl dX10_good_83 ?_
        refine gf_X10_180 X hP 9 rfl (v := .ref (uC 9)) rfl dX10_good_86 ?_
        refine lv_iload X.hx X.hb dX10_good_89 (lv_at hl 0 rfl) ?_
        obtain ⟨hi_14, hf⟩ := ck_i hf
        refine r_iald X hP 16 (f := (sC 8)) rfl hi_14 dX10_good_91 ?_
        cases hf
        subst hQ
        exact r_iret X hP hD hS dX10_good_92
      replace hf := if_f hf hc_13
      refine r_tbd (tgt := 93) X.hx X.hb dX10_good_32 [0, 1, 2] (by decide) (List.forall_mem_cons.mpr ⟨lv_neT hc_9 rfl, List.forall_mem_cons.mpr ⟨lv_neT hc_11 rfl, List.forall_mem_cons.mpr ⟨lv_neT hc_13 rfl, fun _ h => absurd h List.not_mem_nil⟩⟩⟩) (by decide) ?_
      refine lv_iconst (v := (-1)) X.hx X.hb dX10_good_93 (by decide) ?_
      cases hf
      subst hQ
      exact r_iret X hP hD hS dX10_good_94
    · replace hf := if_t hf hc_6
      refine lv_iconst (v := (-1)) X.hx X.hb dX10_good_22 (by decide) ?_
      cases hf
      subst hQ
      exact r_iret X hP hD hS dX10_good_23

def f_X10_areTwo (N : Nat) (qX : Nat → Option Nat) (iX : Nat → Int32) (iC : Nat → Int32) (tC : Nat → Nat → Int64) (sC : Nat → Nat → Int32) (p1 : Int32) (p2 : Int32) : Option (Int32) :=
  bd (f_X1_isPerson N iC tC sC p1) (fun r_1 => (if r_1 = 0 then some 0 else bd (f_X1_isPerson N iC tC sC p2) (fun r_4 => (if r_4 = 0 then some 0 else (if p1 = p2 then some 0 else some 1)))))
set_option maxHeartbeats 4000000 in
set_option maxRecDepth 100000 in
theorem c_X10_areTwo (l : Launch) (G : GT) (N : Nat) (uX uC : Nat → Nat) (xX0 xX2 xX3 xX4 xX7 xX8 xX9 xX10 xX11 xX12 xX13 : Nat) (qX : Nat → Option Nat) (iX : Nat → Int32) (iC : Nat → Int32) (tC : Nat → Nat → Int64) (sC : Nat → Nat → Int32) (p1 : Int32) (p2 : Int32) {r : Int32} (hf : f_X10_areTwo N qX iX iC tC sC p1 p2 = some r) : CI l G yX10_areTwo cX10_areTwo 3 .boolean 2 [.ref (uX 0), .int p1, .int p2] (gX G uX xX0 (uC 0) xX2 xX3 xX4 xX7 xX8 xX9 xX10 xX11 xX12 xX13 qX iX ++ gC G uC iC tC sC) r (gX G uX xX0 (uC 0) xX2 xX3 xX4 xX7 xX8 xX9 xX10 xX11 xX12 xX13 qX iX ++ gC G uC iC tC sC) := by
  refine CI.of (by decide) (Nat.le_of_ble_eq_true rfl) ?_
  intro p e s m args below meth c A X hA hP hD hS ls hl
  have hl : lv_has ls 3 [(0, .ref (uX 0)), (1, .int p1), (2, .int p2)] := hl
  generalize hQ : MQ below (QI G A r (gX G uX xX0 (uC 0) xX2 xX3 xX4 xX7 xX8 xX9 xX10 xX11 xX12 xX13 qX iX ++ gC G uC iC tC sC)) args s 0 0 A = QQ
  unfold f_X10_areTwo at hf
  refine lv_aload_n X.hx X.hb dX10_areTwo_0 rfl (lv_at hl 0 rfl) ?_
  refine gf_X10_19 X hP 0 rfl (v := .ref (uC 0)) rfl dX10_areTwo_1 ?_
  refine lv_iload_n X.hx X.hb dX10_areTwo_4 rfl (lv_at hl 1 rfl) ?_
  obtain ⟨r_1, hc_2, hf⟩ := bd_i hf
  refine r_bvi (gX G uX xX0 (uC 0) xX2 xX3 xX4 xX7 xX8 xX9 xX10 xX11 xX12 xX13 qX iX) ([] : va_W) (As := [.int p1]) (rest := []) X sm_X10_134 (c_X1_isPerson l G N uC iC tC sC p1 hc_2) hP hD hS hA (by simp only [List.append_assoc, List.append_nil, List.nil_append]) (wo := (gX G uX xX0 (uC 0) xX2 xX3 xX4 xX7 xX8 xX9 xX10 xX11 xX12 xX13 qX iX ++ gC G uC iC tC sC)) (by simp only [List.append_assoc, List.append_nil, List.nil_append]) 0 rfl rfl rfl hl.1 (lv_room (Nat.le_of_ble_eq_true rfl)) ⟨Nat.le_of_ble_eq_true rfl, Nat.le_of_ble_eq_true rfl⟩ ⟨Nat.zero_le _, Nat.zero_le _⟩ dX10_areTwo_5 (fun H locs hP hD hS => ?_)
  refine lv_if_eq (tgt := 31) X.hx X.hb dX10_areTwo_8 (by decide) (fun hc_3 => ?_) (fun hc_3 => ?_)
  · replace hf := if_t hf hc_3
    refine lv_iconst (v := 0) X.hx X.hb dX10_areTwo_31 (by decide) ?_
    cases hf
    subst hQ
    exact r_zret X hP hD hS (by decide) dX10_areTwo_32
  · replace hf := if_f hf hc_3
    refine lv_aload_n X.hx X.hb dX10_areTwo_11 rfl (lv_at hl 0 rfl) ?_
    refine gf_X10_19 X hP 0 rfl (v := .ref (uC 0)) rfl dX10_areTwo_12 ?_
    refine lv_iload_n X.hx X.hb dX10_areTwo_15 rfl (lv_at hl 2 rfl) ?_
    obtain ⟨r_4, hc_5, hf⟩ := bd_i hf
    refine r_bvi (gX G uX xX0 (uC 0) xX2 xX3 xX4 xX7 xX8 xX9 xX10 xX11 xX12 xX13 qX iX) ([] : va_W) (As := [.int p2]) (rest := []) X sm_X10_134 (c_X1_isPerson l G N uC iC tC sC p2 hc_5) hP hD hS hA (by simp only [List.append_assoc, List.append_nil, List.nil_append]) (wo := (gX G uX xX0 (uC 0) xX2 xX3 xX4 xX7 xX8 xX9 xX10 xX11 xX12 xX13 qX iX ++ gC G uC iC tC sC)) (by simp only [List.append_assoc, List.append_nil, List.nil_append]) 0 rfl rfl rfl hl.1 (lv_room (Nat.le_of_ble_eq_true rfl)) ⟨Nat.le_of_ble_eq_true rfl, Nat.le_of_ble_eq_true rfl⟩ ⟨Nat.zero_le _, Nat.zero_le _⟩ dX10_areTwo_16 (fun H locs hP hD hS => ?_)
    refine lv_if_eq (tgt := 31) X.hx X.hb dX10_areTwo_19 (by decide) (fun hc_6 => ?_) (fun hc_6 => ?_)
    · replace hf := if_t hf hc_6
      refine lv_iconst (v := 0) X.hx X.hb dX10_areTwo_31 (by decide) ?_
      cases hf
      subst hQ
      exact r_zret X hP hD hS (by decide) dX10_areTwo_32
    · replace hf := if_f hf hc_6
      refine lv_iload_n X.hx X.hb dX10_areTwo_22 rfl (lv_at hl 1 rfl) ?_
      refine lv_iload_n X.hx X.hb dX10_areTwo_23 rfl (lv_at hl 2 rfl) ?_
      refine lv_icmp_eq (tgt := 31) X.hx X.hb dX10_areTwo_24 (by decide) (fun hc_7 => ?_) (fun hc_7 => ?_)
      · replace hf := if_t hf hc_7
        refine lv_iconst (v := 0) X.hx X.hb dX10_areTwo_31 (by decide) ?_
        cases hf
        subst hQ
        exact r_zret X hP hD hS (by decide) dX10_areTwo_32
      · replace hf := if_f hf hc_7
        refine lv_iconst (v := 1) X.hx X.hb dX10_areTwo_27 (by decide) ?_
        refine lv_goto (tgt := 32) X.hx X.hb dX10_areTwo_28 (by decide) ?_
        cases hf
        subst hQ
        exact r_zret X hP hD hS (by decide) dX10_areTwo_32

def f_X10_deals (N : Nat) (qX : Nat → Option Nat) (iX : Nat → Int32) (iM : Nat → Int32) (sM : Nat → Nat → Int32) (iC : Nat → Int32) (tC : Nat → Nat → Int64) (sC : Nat → Nat → Int32) (p1 : Int32) (p2 : Int32) : Option (Int32) :=
  bd (f_X10_areTwo N qX iX iC tC sC p1 p2) (fun r_1 => (if r_1 = 0 then some (-1) else bd (f_X10_pairOf N p1 p2) (fun r_4 => ck r_4 49 (some ((sM 11) (ix r_4))))))
set_option maxHeartbeats 4000000 in
set_option maxRecDepth 100000 in
theorem c_X10_deals (l : Launch) (G : GT) (N : Nat) (uX uM uC : Nat → Nat) (xX0 xX2 xX4 xX7 xX8 xX9 xX10 xX11 xX12 xX13 : Nat) (qX : Nat → Option Nat) (iX : Nat → Int32) (iM : Nat → Int32) (sM : Nat → Nat → Int32) (iC : Nat → Int32) (tC : Nat → Nat → Int64) (sC : Nat → Nat → Int32) (p1 : Int32) (p2 : Int32) {r : Int32} (hf : f_X10_deals N qX iX iM sM iC tC sC p1 p2 = some r) : CI l G yX10_deals cX10_deals 3 .int 3 [.ref (uX 0), .int p1, .int p2] (gX G uX xX0 (uC 0) xX2 (uM 0) xX4 xX7 xX8 xX9 xX10 xX11 xX12 xX13 qX iX ++ gM G uM (uC 0) iM sM ++ gC G uC iC tC sC) r (gX G uX xX0 (uC 0) xX2 (uM 0) xX4 xX7 xX8 xX9 xX10 xX11 xX12 xX13 qX iX ++ gM G uM (uC 0) iM sM ++ gC G uC iC tC sC) := by
  refine CI.of (by decide) (Nat.le_of_ble_eq_true rfl) ?_
  intro p e s m args below meth c A X hA hP hD hS ls hl
  have hl : lv_has ls 3 [(0, .ref (uX 0)), (1, .int p1), (2, .int p2)] := hl
  generalize hQ : MQ below (QI G A r (gX G uX xX0 (uC 0) xX2 (uM 0) xX4 xX7 xX8 xX9 xX10 xX11 xX12 xX13 qX iX ++ gM G uM (uC 0) iM sM ++ gC G uC iC tC sC)) args s 0 0 A = QQ
  unfold f_X10_deals at hf
  refine lv_aload_n X.hx X.hb dX10_deals_0 rfl (lv_at hl 0 rfl) ?_
  refine lv_iload_n X.hx X.hb dX10_deals_1 rfl (lv_at hl 1 rfl) ?_
  refine lv_iload_n X.hx X.hb dX10_deals_2 rfl (lv_at hl 2 rfl) ?_
  obtain ⟨r_1, hc_2, hf⟩ := bd_i hf
  refine r_pvi [gX G uX xX0 (uC 0) xX2 (uM 0) xX4 xX7 xX8 xX9 xX10 xX11 xX12 xX13 qX iX, gM G uM (uC 0) iM sM, gC G uC iC tC sC] [gX G uX xX0 (uC 0) xX2 (uM 0) xX4 xX7 xX8 xX9 xX10 xX11 xX12 xX13 qX iX, gM G uM (uC 0) iM sM, gC G uC iC tC sC] [gX G uX xX0 (uC 0) xX2 (uM 0) xX4 xX7 xX8 xX9 xX10 xX11 xX12 xX13 qX iX, gC G uC iC tC sC] [gX G uX xX0 (uC 0) xX2 (uM 0) xX4 xX7 xX8 xX9 xX10 xX11 xX12 xX13 qX iX, gC G uC iC tC sC] [gM G uM (uC 0) iM sM] 3 [0, 2] [1] (As := [.int p1, .int p2]) (rest := []) X sm_X10_183 (c_X10_areTwo l G N uX uC xX0 xX2 (uM 0) xX4 xX7 xX8 xX9 xX10 xX11 xX12 xX13 qX iX iC tC sC p1 p2 hc_2) hP hD hS hA rfl rfl (by decide) (by simp only [List.flatten_cons, List.flatten_nil, List.append_assoc, List.append_nil]) rfl (by simp only [List.flatten_cons, List.flatten_nil, List.append_assoc, List.append_nil]) rfl (by simp only [List.flatten_cons, List.flatten_nil, List.append_assoc, List.append_nil]) rfl rfl (wo := (gX G uX xX0 (uC 0) xX2 (uM 0) xX4 xX7 xX8 xX9 xX10 xX11 xX12 xX13 qX iX ++ gM G uM (uC 0) iM sM ++ gC G uC iC tC sC)) (by simp only [List.flatten_cons, List.flatten_nil, List.append_assoc, List.append_nil]) 0 rfl rfl rfl hl.1 (lv_room (Nat.le_of_ble_eq_true rfl)) ⟨Nat.le_of_ble_eq_true rfl, Nat.le_of_ble_eq_true rfl⟩ ⟨Nat.zero_le _, Nat.zero_le _⟩ dX10_deals_3 (fun H locs hP hD hS => ?_)
  refine lv_if_ne (tgt := 11) X.hx X.hb dX10_deals_6 (by decide) (fun hc_3 => ?_) (fun hc_3 => ?_)
  · replace hf := if_f hf hc_3
    refine lv_aload_n X.hx X.hb dX10_deals_11 rfl (lv_at hl 0 rfl) ?_
    refine gf_X10_37 X hP 0 rfl (v := .ref (uM 0)) rfl dX10_deals_12 ?_
    refine gf_X10_187 X hP 2 rfl (v := .ref (uM 12)) rfl dX10_deals_15 ?_
    refine lv_iload_n X.hx X.hb dX10_deals_18 rfl (lv_at hl 1 rfl) ?_
    refine lv_iload_n X.hx X.hb dX10_deals_19 rfl (lv_at hl 2 rfl) ?_
    obtain ⟨r_4, hc_5, hf⟩ := bd_i hf
    refine r_cs0 (As := [.int p1, .int p2]) (rest := [.ref (uM 12)]) X sm_X10_190 (c_X10_pairOf l G N p1 p2 hc_5) hP hD hS hA rfl hl.1 (lv_room (Nat.le_of_ble_eq_true rfl)) ⟨Nat.le_of_ble_eq_true rfl, Nat.le_of_ble_eq_true rfl⟩ ⟨Nat.zero_le _, Nat.zero_le _⟩ dX10_deals_20 (fun H locs hP hD hS => ?_)
    obtain ⟨hi_6, hf⟩ := ck_i hf
    refine r_iald X hP 8 (f := (sM 11)) rfl hi_6 dX10_deals_23 ?_
    cases hf
    subst hQ
    exact r_iret X hP hD hS dX10_deals_24
  · replace hf := if_t hf hc_3
    refine lv_iconst (v := (-1)) X.hx X.hb dX10_deals_9 (by decide) ?_
    cases hf
    subst hQ
    exact r_iret X hP hD hS dX10_deals_10

def f_X10_now (N : Nat) (qX : Nat → Option Nat) (iX : Nat → Int32) (iM : Nat → Int32) (sM : Nat → Nat → Int32) (iC : Nat → Int32) (tC : Nat → Nat → Int64) (sC : Nat → Nat → Int32) (p1 : Int32) : Option (Int32) :=
  (if p1 = 0 then some (iM 1) else (if p1 = 1 then some (iM 2) else (if p1 = 2 then some (iM 3) else (if p1 = 3 then bd (f_X4_fed N iM sM iC tC sC) (fun r_5 => some r_5) else (if p1 = 4 then some (iM 4) else (if p1 = 5 then some (iM 5) else (if p1 = 6 then bd (f_X4_pairsMet N iM sM iC tC sC) (fun r_10 => some r_10) else (if p1 = 7 then bd (f_X4_allHunger N iM sM iC tC sC) (fun r_13 => some r_13) else some (-1)))))))))
set_option maxHeartbeats 4000000 in
set_option maxRecDepth 100000 in
theorem c_X10_now (l : Launch) (G : GT) (N : Nat) (uX uM uC : Nat → Nat) (xX0 xX2 xX4 xX7 xX8 xX9 xX10 xX11 xX12 xX13 : Nat) (qX : Nat → Option Nat) (iX : Nat → Int32) (iM : Nat → Int32) (sM : Nat → Nat → Int32) (iC : Nat → Int32) (tC : Nat → Nat → Int64) (sC : Nat → Nat → Int32) (p1 : Int32) {r : Int32} (hf : f_X10_now N qX iX iM sM iC tC sC p1 = some r) : CI l G yX10_now cX10_now 2 .int 4 [.ref (uX 0), .int p1] (gX G uX xX0 (uC 0) xX2 (uM 0) xX4 xX7 xX8 xX9 xX10 xX11 xX12 xX13 qX iX ++ gM G uM (uC 0) iM sM ++ gC G uC iC tC sC) r (gX G uX xX0 (uC 0) xX2 (uM 0) xX4 xX7 xX8 xX9 xX10 xX11 xX12 xX13 qX iX ++ gM G uM (uC 0) iM sM ++ gC G uC iC tC sC) := by
  refine CI.of (by decide) (Nat.le_of_ble_eq_true rfl) ?_
  intro p e s m args below meth c A X hA hP hD hS ls hl
  have hl : lv_has ls 2 [(0, .ref (uX 0)), (1, .int p1)] := hl
  generalize hQ : MQ below (QI G A r (gX G uX xX0 (uC 0) xX2 (uM 0) xX4 xX7 xX8 xX9 xX10 xX11 xX12 xX13 qX iX ++ gM G uM (uC 0) iM sM ++ gC G uC iC tC sC)) args s 0 0 A = QQ
  unfold f_X10_now at hf
  refine lv_iload_n X.hx X.hb dX10_now_0 rfl (lv_at hl 1 rfl) ?_
  by_cases hc_1 : p1 = 0
  · replace hf := if_t hf hc_1
    refine lv_tableIn (tgt := 48) X.hx X.hb dX10_now_1 (by rw [hc_1]; decide) (by rw [hc_1]; decide) (by rw [hc_1]; rfl) (by decide) ?_
    refine lv_aload_n X.hx X.hb dX10_now_48 rfl (lv_at hl 0 rfl) ?_
    refine gf_X10_37 X hP 0 rfl (v := .ref (uM 0)) rfl dX10_now_49 ?_
    refine gf_X10_193 X hP 2 rfl (v := .int (iM 1)) rfl dX10_now_52 ?_
    cases hf
    subst hQ
    exact r_iret X hP hD hS dX10_now_55
  replace hf := if_f hf hc_1
  by_cases hc_2 : p1 = 1
  · replace hf := if_t hf hc_2
    refine lv_tableIn (tgt := 56) X.hx X.hb dX10_now_1 (by rw [hc_2]; decide) (by rw [hc_2]; decide) (by rw [hc_2]; rfl) (by decide) ?_
    refine lv_aload_n X.hx X.hb dX10_now_56 rfl (lv_at hl 0 rfl) ?_
    refine gf_X10_37 X hP 0 rfl (v := .ref (uM 0)) rfl dX10_now_57 ?_
    refine gf_X10_155 X hP 2 rfl (v := .int (iM 2)) rfl dX10_now_60 ?_
    cases hf
    subst hQ
    exact r_iret X hP hD hS dX10_now_63
  replace hf := if_f hf hc_2
  by_cases hc_3 : p1 = 2
  · replace hf := if_t hf hc_3
    refine lv_tableIn (tgt := 64) X.hx X.hb dX10_now_1 (by rw [hc_3]; decide) (by rw [hc_3]; decide) (by rw [hc_3]; rfl) (by decide) ?_
    refine lv_aload_n X.hx X.hb dX10_now_64 rfl (lv_at hl 0 rfl) ?_
    refine gf_X10_37 X hP 0 rfl (v := .ref (uM 0)) rfl dX10_now_65 ?_
    refine gf_X10_158 X hP 2 rfl (v := .int (iM 3)) rfl dX10_now_68 ?_
    cases hf
    subst hQ
    exact r_iret X hP hD hS dX10_now_71
  replace hf := if_f hf hc_3
  by_cases hc_4 : p1 = 3
  · replace hf := if_t hf hc_4
    refine lv_tableIn (tgt := 72) X.hx X.hb dX10_now_1 (by rw [hc_4]; decide) (by rw [hc_4]; decide) (by rw [hc_4]; rfl) (by decide) ?_
    refine lv_aload_n X.hx X.hb dX10_now_72 rfl (lv_at hl 0 rfl) ?_
    refine gf_X10_37 X hP 0 rfl (v := .ref (uM 0)) rfl dX10_now_73 ?_
    obtain ⟨r_5, hc_6, hf⟩ := bd_i hf
    refine r_bvi (gX G uX xX0 (uC 0) xX2 (uM 0) xX4 xX7 xX8 xX9 xX10 xX11 xX12 xX13 qX iX) ([] : va_W) (As := []) (rest := []) X sm_X10_196 (c_X4_fed l G N uM uC iM sM iC tC sC hc_6) hP hD hS hA (by simp only [List.append_assoc, List.append_nil, List.nil_append]) (wo := (gX G uX xX0 (uC 0) xX2 (uM 0) xX4 xX7 xX8 xX9 xX10 xX11 xX12 xX13 qX iX ++ gM G uM (uC 0) iM sM ++ gC G uC iC tC sC)) (by simp only [List.append_assoc, List.append_nil, List.nil_append]) 0 rfl rfl rfl hl.1 (lv_room (Nat.le_of_ble_eq_true rfl)) ⟨Nat.le_of_ble_eq_true rfl, Nat.le_of_ble_eq_true rfl⟩ ⟨Nat.zero_le _, Nat.zero_le _⟩ dX10_now_76 (fun H locs hP hD hS => ?_)
    cases hf
    subst hQ
    exact r_iret X hP hD hS dX10_now_79
  replace hf := if_f hf hc_4
  by_cases hc_7 : p1 = 4
  · replace hf := if_t hf hc_7
    refine lv_tableIn (tgt := 80) X.hx X.hb dX10_now_1 (by rw [hc_7]; decide) (by rw [hc_7]; decide) (by rw [hc_7]; rfl) (by decide) ?_
    refine lv_aload_n X.hx X.hb dX10_now_80 rfl (lv_at hl 0 rfl) ?_
    refine gf_X10_37 X hP 0 rfl (v := .ref (uM 0)) rfl dX10_now_81 ?_
    refine gf_X10_199 X hP 2 rfl (v := .int (iM 4)) rfl dX10_now_84 ?_
    cases hf
    subst hQ
    exact r_iret X hP hD hS dX10_now_87
  replace hf := if_f hf hc_7
  by_cases hc_8 : p1 = 5
  · replace hf := if_t hf hc_8
    refine lv_tableIn (tgt := 88) X.hx X.hb dX10_now_1 (by rw [hc_8]; decide) (by rw [hc_8]; decide) (by rw [hc_8]; rfl) (by decide) ?_
    refine lv_aload_n X.hx X.hb dX10_now_88 rfl (lv_at hl 0 rfl) ?_
    refine gf_X10_37 X hP 0 rfl (v := .ref (uM 0)) rfl dX10_now_89 ?_
    refine gf_X10_202 X hP 2 rfl (v := .int (iM 5)) rfl dX10_now_92 ?_
    cases hf
    subst hQ
    exact r_iret X hP hD hS dX10_now_95
  replace hf := if_f hf hc_8
  by_cases hc_9 : p1 = 6
  · replace hf := if_t hf hc_9
    refine lv_tableIn (tgt := 96) X.hx X.hb dX10_now_1 (by rw [hc_9]; decide) (by rw [hc_9]; decide) (by rw [hc_9]; rfl) (by decide) ?_
    refine lv_aload_n X.hx X.hb dX10_now_96 rfl (lv_at hl 0 rfl) ?_
    refine gf_X10_37 X hP 0 rfl (v := .ref (uM 0)) rfl dX10_now_97 ?_
    obtain ⟨r_10, hc_11, hf⟩ := bd_i hf
    refine r_bvi (gX G uX xX0 (uC 0) xX2 (uM 0) xX4 xX7 xX8 xX9 xX10 xX11 xX12 xX13 qX iX) ([] : va_W) (As := []) (rest := []) X sm_X10_205 (c_X4_pairsMet l G N uM uC iM sM iC tC sC hc_11) hP hD hS hA (by simp only [List.append_assoc, List.append_nil, List.nil_append]) (wo := (gX G uX xX0 (uC 0) xX2 (uM 0) xX4 xX7 xX8 xX9 xX10 xX11 xX12 xX13 qX iX ++ gM G uM (uC 0) iM sM ++ gC G uC iC tC sC)) (by simp only [List.append_assoc, List.append_nil, List.nil_append]) 0 rfl rfl rfl hl.1 (lv_room (Nat.le_of_ble_eq_true rfl)) ⟨Nat.le_of_ble_eq_true rfl, Nat.le_of_ble_eq_true rfl⟩ ⟨Nat.zero_le _, Nat.zero_le _⟩ dX10_now_100 (fun H locs hP hD hS => ?_)
    cases hf
    subst hQ
    exact r_iret X hP hD hS dX10_now_103
  replace hf := if_f hf hc_9
  by_cases hc_12 : p1 = 7
  · replace hf := if_t hf hc_12
    refine lv_tableIn (tgt := 104) X.hx X.hb dX10_now_1 (by rw [hc_12]; decide) (by rw [hc_12]; decide) (by rw [hc_12]; rfl) (by decide) ?_
    refine lv_aload_n X.hx X.hb dX10_now_104 rfl (lv_at hl 0 rfl) ?_
    refine gf_X10_37 X hP 0 rfl (v := .ref (uM 0)) rfl dX10_now_105 ?_
    obtain ⟨r_13, hc_14, hf⟩ := bd_i hf
    refine r_bvi (gX G uX xX0 (uC 0) xX2 (uM 0) xX4 xX7 xX8 xX9 xX10 xX11 xX12 xX13 qX iX) ([] : va_W) (As := []) (rest := []) X sm_X10_208 (c_X4_allHunger l G N uM uC iM sM iC tC sC hc_14) hP hD hS hA (by simp only [List.append_assoc, List.append_nil, List.nil_append]) (wo := (gX G uX xX0 (uC 0) xX2 (uM 0) xX4 xX7 xX8 xX9 xX10 xX11 xX12 xX13 qX iX ++ gM G uM (uC 0) iM sM ++ gC G uC iC tC sC)) (by simp only [List.append_assoc, List.append_nil, List.nil_append]) 0 rfl rfl rfl hl.1 (lv_room (Nat.le_of_ble_eq_true rfl)) ⟨Nat.le_of_ble_eq_true rfl, Nat.le_of_ble_eq_true rfl⟩ ⟨Nat.zero_le _, Nat.zero_le _⟩ dX10_now_108 (fun H locs hP hD hS => ?_)
    cases hf
    subst hQ
    exact r_iret X hP hD hS dX10_now_111
  replace hf := if_f hf hc_12
  refine r_tbd (tgt := 112) X.hx X.hb dX10_now_1 [0, 1, 2, 3, 4, 5, 6, 7] (by decide) (List.forall_mem_cons.mpr ⟨lv_neT hc_1 rfl, List.forall_mem_cons.mpr ⟨lv_neT hc_2 rfl, List.forall_mem_cons.mpr ⟨lv_neT hc_3 rfl, List.forall_mem_cons.mpr ⟨lv_neT hc_4 rfl, List.forall_mem_cons.mpr ⟨lv_neT hc_7 rfl, List.forall_mem_cons.mpr ⟨lv_neT hc_8 rfl, List.forall_mem_cons.mpr ⟨lv_neT hc_9 rfl, List.forall_mem_cons.mpr ⟨lv_neT hc_12 rfl, fun _ h => absurd h List.not_mem_nil⟩⟩⟩⟩⟩⟩⟩⟩) (by decide) ?_
  refine lv_iconst (v := (-1)) X.hx X.hb dX10_now_112 (by decide) ?_
  cases hf
  subst hQ
  exact r_iret X hP hD hS dX10_now_113

def f_X10_most (N : Nat) (qX : Nat → Option Nat) (iX : Nat → Int32) (iE : Nat → Int32) (sE : Nat → Nat → Int32) (iM : Nat → Int32) (sM : Nat → Nat → Int32) (iC : Nat → Int32) (tC : Nat → Nat → Int64) (sC : Nat → Nat → Int32) (p1 : Int32) : Option (Int32) :=
  bd (f_X1_isGood N iC tC sC p1) (fun r_1 => (if r_1 = 0 then some (-1) else bd (f_X9_mostOf N iE sE iM sM iC tC sC p1) (fun r_4 => some r_4)))
set_option maxHeartbeats 4000000 in
set_option maxRecDepth 100000 in
theorem c_X10_most (l : Launch) (G : GT) (N : Nat) (uX uE uM uC : Nat → Nat) (xX0 xX2 xX4 xX8 xX9 xX10 xX11 xX12 xX13 : Nat) (qX : Nat → Option Nat) (iX : Nat → Int32) (iE : Nat → Int32) (sE : Nat → Nat → Int32) (iM : Nat → Int32) (sM : Nat → Nat → Int32) (iC : Nat → Int32) (tC : Nat → Nat → Int64) (sC : Nat → Nat → Int32) (p1 : Int32) {r : Int32} (hf : f_X10_most N qX iX iE sE iM sM iC tC sC p1 = some r) : CI l G yX10_most cX10_most 2 .int 5 [.ref (uX 0), .int p1] (gX G uX xX0 (uC 0) xX2 (uM 0) xX4 (uE 0) xX8 xX9 xX10 xX11 xX12 xX13 qX iX ++ gE G uE (uC 0) (uM 0) iE sE ++ gM G uM (uC 0) iM sM ++ gC G uC iC tC sC) r (gX G uX xX0 (uC 0) xX2 (uM 0) xX4 (uE 0) xX8 xX9 xX10 xX11 xX12 xX13 qX iX ++ gE G uE (uC 0) (uM 0) iE sE ++ gM G uM (uC 0) iM sM ++ gC G uC iC tC sC) := by
  refine CI.of (by decide) (Nat.le_of_ble_eq_true rfl) ?_
  intro p e s m args below meth c A X hA hP hD hS ls hl
  have hl : lv_has ls 2 [(0, .ref (uX 0)), (1, .int p1)] := hl
  generalize hQ : MQ below (QI G A r (gX G uX xX0 (uC 0) xX2 (uM 0) xX4 (uE 0) xX8 xX9 xX10 xX11 xX12 xX13 qX iX ++ gE G uE (uC 0) (uM 0) iE sE ++ gM G uM (uC 0) iM sM ++ gC G uC iC tC sC)) args s 0 0 A = QQ
  unfold f_X10_most at hf
  refine lv_aload_n X.hx X.hb dX10_most_0 rfl (lv_at hl 0 rfl) ?_
  refine gf_X10_19 X hP 0 rfl (v := .ref (uC 0)) rfl dX10_most_1 ?_
  refine lv_iload_n X.hx X.hb dX10_most_4 rfl (lv_at hl 1 rfl) ?_
  obtain ⟨r_1, hc_2, hf⟩ := bd_i hf
  refine r_bvi (gX G uX xX0 (uC 0) xX2 (uM 0) xX4 (uE 0) xX8 xX9 xX10 xX11 xX12 xX13 qX iX ++ gE G uE (uC 0) (uM 0) iE sE ++ gM G uM (uC 0) iM sM) ([] : va_W) (As := [.int p1]) (rest := []) X sm_X10_167 (c_X1_isGood l G N uC iC tC sC p1 hc_2) hP hD hS hA (by simp only [List.append_assoc, List.append_nil, List.nil_append]) (wo := (gX G uX xX0 (uC 0) xX2 (uM 0) xX4 (uE 0) xX8 xX9 xX10 xX11 xX12 xX13 qX iX ++ gE G uE (uC 0) (uM 0) iE sE ++ gM G uM (uC 0) iM sM ++ gC G uC iC tC sC)) (by simp only [List.append_assoc, List.append_nil, List.nil_append]) 0 rfl rfl rfl hl.1 (lv_room (Nat.le_of_ble_eq_true rfl)) ⟨Nat.le_of_ble_eq_true rfl, Nat.le_of_ble_eq_true rfl⟩ ⟨Nat.zero_le _, Nat.zero_le _⟩ dX10_most_5 (fun H locs hP hD hS => ?_)
  refine lv_if_eq (tgt := 22) X.hx X.hb dX10_most_8 (by decide) (fun hc_3 => ?_) (fun hc_3 => ?_)
  · replace hf := if_t hf hc_3
    refine lv_iconst (v := (-1)) X.hx X.hb dX10_most_22 (by decide) ?_
    cases hf
    subst hQ
    exact r_iret X hP hD hS dX10_most_23
  · replace hf := if_f hf hc_3
    refine lv_aload_n X.hx X.hb dX10_most_11 rfl (lv_at hl 0 rfl) ?_
    refine gf_X10_57 X hP 0 rfl (v := .ref (uE 0)) rfl dX10_most_12 ?_
    refine lv_iload_n X.hx X.hb dX10_most_15 rfl (lv_at hl 1 rfl) ?_
    obtain ⟨r_4, hc_5, hf⟩ := bd_i hf
    refine r_bvi (gX G uX xX0 (uC 0) xX2 (uM 0) xX4 (uE 0) xX8 xX9 xX10 xX11 xX12 xX13 qX iX) ([] : va_W) (As := [.int p1]) (rest := []) X sm_X10_247 (c_X9_mostOf l G N uE uM uC iE sE iM sM iC tC sC p1 hc_5) hP hD hS hA (by simp only [List.append_assoc, List.append_nil, List.nil_append]) (wo := (gX G uX xX0 (uC 0) xX2 (uM 0) xX4 (uE 0) xX8 xX9 xX10 xX11 xX12 xX13 qX iX ++ gE G uE (uC 0) (uM 0) iE sE ++ gM G uM (uC 0) iM sM ++ gC G uC iC tC sC)) (by simp only [List.append_assoc, List.append_nil, List.nil_append]) 0 rfl rfl rfl hl.1 (lv_room (Nat.le_of_ble_eq_true rfl)) ⟨Nat.le_of_ble_eq_true rfl, Nat.le_of_ble_eq_true rfl⟩ ⟨Nat.zero_le _, Nat.zero_le _⟩ dX10_most_16 (fun H locs hP hD hS => ?_)
    refine lv_goto (tgt := 23) X.hx X.hb dX10_most_19 (by decide) ?_
    cases hf
    subst hQ
    exact r_iret X hP hD hS dX10_most_23

def f_X10_ask (N : Nat) (qX : Nat → Option Nat) (iX : Nat → Int32) (iE : Nat → Int32) (sE : Nat → Nat → Int32) (iM : Nat → Int32) (sM : Nat → Nat → Int32) (iC : Nat → Int32) (tC : Nat → Nat → Int64) (sC : Nat → Nat → Int32) : Option (Int32) :=
  some (iE 2)
set_option maxHeartbeats 4000000 in
set_option maxRecDepth 100000 in
theorem c_X10_ask (l : Launch) (G : GT) (N : Nat) (uX uE uM uC : Nat → Nat) (xX0 xX2 xX4 xX8 xX9 xX10 xX11 xX12 xX13 : Nat) (qX : Nat → Option Nat) (iX : Nat → Int32) (iE : Nat → Int32) (sE : Nat → Nat → Int32) (iM : Nat → Int32) (sM : Nat → Nat → Int32) (iC : Nat → Int32) (tC : Nat → Nat → Int64) (sC : Nat → Nat → Int32) {r : Int32} (hf : f_X10_ask N qX iX iE sE iM sM iC tC sC = some r) : CI l G yX10_ask cX10_ask 1 .int 1 [.ref (uX 0)] (gX G uX xX0 (uC 0) xX2 (uM 0) xX4 (uE 0) xX8 xX9 xX10 xX11 xX12 xX13 qX iX ++ gE G uE (uC 0) (uM 0) iE sE ++ gM G uM (uC 0) iM sM ++ gC G uC iC tC sC) r (gX G uX xX0 (uC 0) xX2 (uM 0) xX4 (uE 0) xX8 xX9 xX10 xX11 xX12 xX13 qX iX ++ gE G uE (uC 0) (uM 0) iE sE ++ gM G uM (uC 0) iM sM ++ gC G uC iC tC sC) := by
  refine CI.of (by decide) (Nat.le_of_ble_eq_true rfl) ?_
  intro p e s m args below meth c A X hA hP hD hS ls hl
  have hl : lv_has ls 1 [(0, .ref (uX 0))] := hl
  generalize hQ : MQ below (QI G A r (gX G uX xX0 (uC 0) xX2 (uM 0) xX4 (uE 0) xX8 xX9 xX10 xX11 xX12 xX13 qX iX ++ gE G uE (uC 0) (uM 0) iE sE ++ gM G uM (uC 0) iM sM ++ gC G uC iC tC sC)) args s 0 0 A = QQ
  unfold f_X10_ask at hf
  refine lv_aload_n X.hx X.hb dX10_ask_0 rfl (lv_at hl 0 rfl) ?_
  refine gf_X10_57 X hP 0 rfl (v := .ref (uE 0)) rfl dX10_ask_1 ?_
  refine gf_X10_254 X hP 2 rfl (v := .int (iE 2)) rfl dX10_ask_4 ?_
  cases hf
  subst hQ
  exact r_iret X hP hD hS dX10_ask_7

def f_X10_serve (N : Nat) (qX : Nat → Option Nat) (iX : Nat → Int32) (iE : Nat → Int32) (sE : Nat → Nat → Int32) (iM : Nat → Int32) (sM : Nat → Nat → Int32) (iC : Nat → Int32) (tC : Nat → Nat → Int64) (sC : Nat → Nat → Int32) (p1 : Int32) : Option (Int32 × (Nat → Int32)) :=
  bd (f_X1_isGood N iC tC sC p1) (fun r_1 => (if r_1 = 0 then some ((-1), iE) else bd (f_X9_fewestSellers N iE sE iM sM iC tC sC p1) (fun (r_4, iE_5) => some (r_4, iE_5))))
set_option maxHeartbeats 4000000 in
set_option maxRecDepth 100000 in
theorem c_X10_serve (l : Launch) (G : GT) (N : Nat) (uX uE uM uC : Nat → Nat) (xX0 xX2 xX4 xX8 xX9 xX10 xX11 xX12 xX13 : Nat) (qX : Nat → Option Nat) (iX : Nat → Int32) (iE : Nat → Int32) (sE : Nat → Nat → Int32) (iM : Nat → Int32) (sM : Nat → Nat → Int32) (iC : Nat → Int32) (tC : Nat → Nat → Int64) (sC : Nat → Nat → Int32) (p1 : Int32) {r : Int32} {iE' : Nat → Int32} (hf : f_X10_serve N qX iX iE sE iM sM iC tC sC p1 = some (r, iE')) : CI l G yX10_serve cX10_serve 2 .int 5 [.ref (uX 0), .int p1] (gX G uX xX0 (uC 0) xX2 (uM 0) xX4 (uE 0) xX8 xX9 xX10 xX11 xX12 xX13 qX iX ++ gE G uE (uC 0) (uM 0) iE sE ++ gM G uM (uC 0) iM sM ++ gC G uC iC tC sC) r (gX G uX xX0 (uC 0) xX2 (uM 0) xX4 (uE 0) xX8 xX9 xX10 xX11 xX12 xX13 qX iX ++ gE G uE (uC 0) (uM 0) iE' sE ++ gM G uM (uC 0) iM sM ++ gC G uC iC tC sC) := by
  refine CI.of (by decide) (Nat.le_of_ble_eq_true rfl) ?_
  intro p e s m args below meth c A X hA hP hD hS ls hl
  have hl : lv_has ls 2 [(0, .ref (uX 0)), (1, .int p1)] := hl
  generalize hQ : MQ below (QI G A r (gX G uX xX0 (uC 0) xX2 (uM 0) xX4 (uE 0) xX8 xX9 xX10 xX11 xX12 xX13 qX iX ++ gE G uE (uC 0) (uM 0) iE' sE ++ gM G uM (uC 0) iM sM ++ gC G uC iC tC sC)) args s 0 0 A = QQ
  unfold f_X10_serve at hf
  refine lv_aload_n X.hx X.hb dX10_serve_0 rfl (lv_at hl 0 rfl) ?_
  refine gf_X10_19 X hP 0 rfl (v := .ref (uC 0)) rfl dX10_serve_1 ?_
  refine lv_iload_n X.hx X.hb dX10_serve_4 rfl (lv_at hl 1 rfl) ?_
  obtain ⟨r_1, hc_2, hf⟩ := bd_i hf
  refine r_bvi (gX G uX xX0 (uC 0) xX2 (uM 0) xX4 (uE 0) xX8 xX9 xX10 xX11 xX12 xX13 qX iX ++ gE G uE (uC 0) (uM 0) iE sE ++ gM G uM (uC 0) iM sM) ([] : va_W) (As := [.int p1]) (rest := []) X sm_X10_167 (c_X1_isGood l G N uC iC tC sC p1 hc_2) hP hD hS hA (by simp only [List.append_assoc, List.append_nil, List.nil_append]) (wo := (gX G uX xX0 (uC 0) xX2 (uM 0) xX4 (uE 0) xX8 xX9 xX10 xX11 xX12 xX13 qX iX ++ gE G uE (uC 0) (uM 0) iE sE ++ gM G uM (uC 0) iM sM ++ gC G uC iC tC sC)) (by simp only [List.append_assoc, List.append_nil, List.nil_append]) 0 rfl rfl rfl hl.1 (lv_room (Nat.le_of_ble_eq_true rfl)) ⟨Nat.le_of_ble_eq_true rfl, Nat.le_of_ble_eq_true rfl⟩ ⟨Nat.zero_le _, Nat.zero_le _⟩ dX10_serve_5 (fun H locs hP hD hS => ?_)
  refine lv_if_eq (tgt := 22) X.hx X.hb dX10_serve_8 (by decide) (fun hc_3 => ?_) (fun hc_3 => ?_)
  · replace hf := if_t hf hc_3
    refine lv_iconst (v := (-1)) X.hx X.hb dX10_serve_22 (by decide) ?_
    cases hf
    subst hQ
    exact r_iret X hP hD hS dX10_serve_23
  · replace hf := if_f hf hc_3
    refine lv_aload_n X.hx X.hb dX10_serve_11 rfl (lv_at hl 0 rfl) ?_
    refine gf_X10_57 X hP 0 rfl (v := .ref (uE 0)) rfl dX10_serve_12 ?_
    refine lv_iload_n X.hx X.hb dX10_serve_15 rfl (lv_at hl 1 rfl) ?_
    obtain ⟨⟨r_4, iE_5⟩, hc_6, hf⟩ := bd_i hf
    refine r_bvi (gX G uX xX0 (uC 0) xX2 (uM 0) xX4 (uE 0) xX8 xX9 xX10 xX11 xX12 xX13 qX iX) ([] : va_W) (As := [.int p1]) (rest := []) X sm_X10_257 (c_X9_fewestSellers l G N uE uM uC iE sE iM sM iC tC sC p1 hc_6) hP hD hS hA (by simp only [List.append_assoc, List.append_nil, List.nil_append]) (wo := (gX G uX xX0 (uC 0) xX2 (uM 0) xX4 (uE 0) xX8 xX9 xX10 xX11 xX12 xX13 qX iX ++ gE G uE (uC 0) (uM 0) iE_5 sE ++ gM G uM (uC 0) iM sM ++ gC G uC iC tC sC)) (by simp only [List.append_assoc, List.append_nil, List.nil_append]) 0 rfl rfl rfl hl.1 (lv_room (Nat.le_of_ble_eq_true rfl)) ⟨Nat.le_of_ble_eq_true rfl, Nat.le_of_ble_eq_true rfl⟩ ⟨Nat.zero_le _, Nat.zero_le _⟩ dX10_serve_16 (fun H locs hP hD hS => ?_)
    refine lv_goto (tgt := 23) X.hx X.hb dX10_serve_19 (by decide) ?_
    cases hf
    subst hQ
    exact r_iret X hP hD hS dX10_serve_23

def f_X10_serving (N : Nat) (qX : Nat → Option Nat) (iX : Nat → Int32) (iE : Nat → Int32) (sE : Nat → Nat → Int32) (iM : Nat → Int32) (sM : Nat → Nat → Int32) (iC : Nat → Int32) (tC : Nat → Nat → Int64) (sC : Nat → Nat → Int32) : Option (Int32) :=
  some (iE 3)
set_option maxHeartbeats 4000000 in
set_option maxRecDepth 100000 in
theorem c_X10_serving (l : Launch) (G : GT) (N : Nat) (uX uE uM uC : Nat → Nat) (xX0 xX2 xX4 xX8 xX9 xX10 xX11 xX12 xX13 : Nat) (qX : Nat → Option Nat) (iX : Nat → Int32) (iE : Nat → Int32) (sE : Nat → Nat → Int32) (iM : Nat → Int32) (sM : Nat → Nat → Int32) (iC : Nat → Int32) (tC : Nat → Nat → Int64) (sC : Nat → Nat → Int32) {r : Int32} (hf : f_X10_serving N qX iX iE sE iM sM iC tC sC = some r) : CI l G yX10_serving cX10_serving 1 .int 1 [.ref (uX 0)] (gX G uX xX0 (uC 0) xX2 (uM 0) xX4 (uE 0) xX8 xX9 xX10 xX11 xX12 xX13 qX iX ++ gE G uE (uC 0) (uM 0) iE sE ++ gM G uM (uC 0) iM sM ++ gC G uC iC tC sC) r (gX G uX xX0 (uC 0) xX2 (uM 0) xX4 (uE 0) xX8 xX9 xX10 xX11 xX12 xX13 qX iX ++ gE G uE (uC 0) (uM 0) iE sE ++ gM G uM (uC 0) iM sM ++ gC G uC iC tC sC) := by
  refine CI.of (by decide) (Nat.le_of_ble_eq_true rfl) ?_
  intro p e s m args below meth c A X hA hP hD hS ls hl
  have hl : lv_has ls 1 [(0, .ref (uX 0))] := hl
  generalize hQ : MQ below (QI G A r (gX G uX xX0 (uC 0) xX2 (uM 0) xX4 (uE 0) xX8 xX9 xX10 xX11 xX12 xX13 qX iX ++ gE G uE (uC 0) (uM 0) iE sE ++ gM G uM (uC 0) iM sM ++ gC G uC iC tC sC)) args s 0 0 A = QQ
  unfold f_X10_serving at hf
  refine lv_aload_n X.hx X.hb dX10_serving_0 rfl (lv_at hl 0 rfl) ?_
  refine gf_X10_57 X hP 0 rfl (v := .ref (uE 0)) rfl dX10_serving_1 ?_
  refine gf_X10_260 X hP 2 rfl (v := .int (iE 3)) rfl dX10_serving_4 ?_
  cases hf
  subst hQ
  exact r_iret X hP hD hS dX10_serving_7

def f_X10_chain (N : Nat) (qX : Nat → Option Nat) (iX : Nat → Int32) (iE : Nat → Int32) (sE : Nat → Nat → Int32) (iM : Nat → Int32) (sM : Nat → Nat → Int32) (iC : Nat → Int32) (tC : Nat → Nat → Int64) (sC : Nat → Nat → Int32) (p1 : Int32) (p2 : Int32) : Option (Int32 × (Nat → Int32) × (Nat → Nat → Int32)) :=
  bd (f_X10_areTwo N qX iX iC tC sC p1 p2) (fun r_1 => (if r_1 = 0 then some ((-1), iE, sE) else bd (f_X9_goBetweens N iE sE iM sM iC tC sC p1 p2) (fun (r_4, iE_5, sE_6) => some (r_4, iE_5, sE_6))))
set_option maxHeartbeats 4000000 in
set_option maxRecDepth 100000 in
theorem c_X10_chain (l : Launch) (G : GT) (N : Nat) (uX uE uM uC : Nat → Nat) (xX0 xX2 xX4 xX8 xX9 xX10 xX11 xX12 xX13 : Nat) (qX : Nat → Option Nat) (iX : Nat → Int32) (iE : Nat → Int32) (sE : Nat → Nat → Int32) (iM : Nat → Int32) (sM : Nat → Nat → Int32) (iC : Nat → Int32) (tC : Nat → Nat → Int64) (sC : Nat → Nat → Int32) (p1 : Int32) (p2 : Int32) {r : Int32} {iE' : Nat → Int32} {sE' : Nat → Nat → Int32} (hf : f_X10_chain N qX iX iE sE iM sM iC tC sC p1 p2 = some (r, iE', sE')) : CI l G yX10_chain cX10_chain 3 .int 5 [.ref (uX 0), .int p1, .int p2] (gX G uX xX0 (uC 0) xX2 (uM 0) xX4 (uE 0) xX8 xX9 xX10 xX11 xX12 xX13 qX iX ++ gE G uE (uC 0) (uM 0) iE sE ++ gM G uM (uC 0) iM sM ++ gC G uC iC tC sC) r (gX G uX xX0 (uC 0) xX2 (uM 0) xX4 (uE 0) xX8 xX9 xX10 xX11 xX12 xX13 qX iX ++ gE G uE (uC 0) (uM 0) iE' sE' ++ gM G uM (uC 0) iM sM ++ gC G uC iC tC sC) := by
  refine CI.of (by decide) (Nat.le_of_ble_eq_true rfl) ?_
  intro p e s m args below meth c A X hA hP hD hS ls hl
  have hl : lv_has ls 3 [(0, .ref (uX 0)), (1, .int p1), (2, .int p2)] := hl
  generalize hQ : MQ below (QI G A r (gX G uX xX0 (uC 0) xX2 (uM 0) xX4 (uE 0) xX8 xX9 xX10 xX11 xX12 xX13 qX iX ++ gE G uE (uC 0) (uM 0) iE' sE' ++ gM G uM (uC 0) iM sM ++ gC G uC iC tC sC)) args s 0 0 A = QQ
  unfold f_X10_chain at hf
  refine lv_aload_n X.hx X.hb dX10_chain_0 rfl (lv_at hl 0 rfl) ?_
  refine lv_iload_n X.hx X.hb dX10_chain_1 rfl (lv_at hl 1 rfl) ?_
  refine lv_iload_n X.hx X.hb dX10_chain_2 rfl (lv_at hl 2 rfl) ?_
  obtain ⟨r_1, hc_2, hf⟩ := bd_i hf
  refine r_pvi [gX G uX xX0 (uC 0) xX2 (uM 0) xX4 (uE 0) xX8 xX9 xX10 xX11 xX12 xX13 qX iX, gE G uE (uC 0) (uM 0) iE sE, gM G uM (uC 0) iM sM, gC G uC iC tC sC] [gX G uX xX0 (uC 0) xX2 (uM 0) xX4 (uE 0) xX8 xX9 xX10 xX11 xX12 xX13 qX iX, gE G uE (uC 0) (uM 0) iE sE, gM G uM (uC 0) iM sM, gC G uC iC tC sC] [gX G uX xX0 (uC 0) xX2 (uM 0) xX4 (uE 0) xX8 xX9 xX10 xX11 xX12 xX13 qX iX, gC G uC iC tC sC] [gX G uX xX0 (uC 0) xX2 (uM 0) xX4 (uE 0) xX8 xX9 xX10 xX11 xX12 xX13 qX iX, gC G uC iC tC sC] [gE G uE (uC 0) (uM 0) iE sE, gM G uM (uC 0) iM sM] 4 [0, 3] [1, 2] (As := [.int p1, .int p2]) (rest := []) X sm_X10_183 (c_X10_areTwo l G N uX uC xX0 xX2 (uM 0) xX4 (uE 0) xX8 xX9 xX10 xX11 xX12 xX13 qX iX iC tC sC p1 p2 hc_2) hP hD hS hA rfl rfl (by decide) (by simp only [List.flatten_cons, List.flatten_nil, List.append_assoc, List.append_nil]) rfl (by simp only [List.flatten_cons, List.flatten_nil, List.append_assoc, List.append_nil]) rfl (by simp only [List.flatten_cons, List.flatten_nil, List.append_assoc, List.append_nil]) rfl rfl (wo := (gX G uX xX0 (uC 0) xX2 (uM 0) xX4 (uE 0) xX8 xX9 xX10 xX11 xX12 xX13 qX iX ++ gE G uE (uC 0) (uM 0) iE sE ++ gM G uM (uC 0) iM sM ++ gC G uC iC tC sC)) (by simp only [List.flatten_cons, List.flatten_nil, List.append_assoc, List.append_nil]) 0 rfl rfl rfl hl.1 (lv_room (Nat.le_of_ble_eq_true rfl)) ⟨Nat.le_of_ble_eq_true rfl, Nat.le_of_ble_eq_true rfl⟩ ⟨Nat.zero_le _, Nat.zero_le _⟩ dX10_chain_3 (fun H locs hP hD hS => ?_)
  refine lv_if_eq (tgt := 21) X.hx X.hb dX10_chain_6 (by decide) (fun hc_3 => ?_) (fun hc_3 => ?_)
  · replace hf := if_t hf hc_3
    refine lv_iconst (v := (-1)) X.hx X.hb dX10_chain_21 (by decide) ?_
    cases hf
    subst hQ
    exact r_iret X hP hD hS dX10_chain_22
  · replace hf := if_f hf hc_3
    refine lv_aload_n X.hx X.hb dX10_chain_9 rfl (lv_at hl 0 rfl) ?_
    refine gf_X10_57 X hP 0 rfl (v := .ref (uE 0)) rfl dX10_chain_10 ?_
    refine lv_iload_n X.hx X.hb dX10_chain_13 rfl (lv_at hl 1 rfl) ?_
    refine lv_iload_n X.hx X.hb dX10_chain_14 rfl (lv_at hl 2 rfl) ?_
    obtain ⟨⟨r_4, iE_5, sE_6⟩, hc_7, hf⟩ := bd_i hf
    refine r_bvi (gX G uX xX0 (uC 0) xX2 (uM 0) xX4 (uE 0) xX8 xX9 xX10 xX11 xX12 xX13 qX iX) ([] : va_W) (As := [.int p1, .int p2]) (rest := []) X sm_X10_263 (c_X9_goBetweens l G N uE uM uC iE sE iM sM iC tC sC p1 p2 hc_7) hP hD hS hA (by simp only [List.append_assoc, List.append_nil, List.nil_append]) (wo := (gX G uX xX0 (uC 0) xX2 (uM 0) xX4 (uE 0) xX8 xX9 xX10 xX11 xX12 xX13 qX iX ++ gE G uE (uC 0) (uM 0) iE_5 sE_6 ++ gM G uM (uC 0) iM sM ++ gC G uC iC tC sC)) (by simp only [List.append_assoc, List.append_nil, List.nil_append]) 0 rfl rfl rfl hl.1 (lv_room (Nat.le_of_ble_eq_true rfl)) ⟨Nat.le_of_ble_eq_true rfl, Nat.le_of_ble_eq_true rfl⟩ ⟨Nat.zero_le _, Nat.zero_le _⟩ dX10_chain_15 (fun H locs hP hD hS => ?_)
    refine lv_goto (tgt := 22) X.hx X.hb dX10_chain_18 (by decide) ?_
    cases hf
    subst hQ
    exact r_iret X hP hD hS dX10_chain_22

def f_X10_chainAt (N : Nat) (qX : Nat → Option Nat) (iX : Nat → Int32) (iE : Nat → Int32) (sE : Nat → Nat → Int32) (iM : Nat → Int32) (sM : Nat → Nat → Int32) (iC : Nat → Int32) (tC : Nat → Nat → Int64) (sC : Nat → Nat → Int32) (p1 : Int32) : Option (Int32) :=
  (if p1 < 0 then some (-1) else (if (iE 4) ≤ p1 then some (-1) else (if p1 < 7 then ck p1 7 (some ((sE 5) (ix p1))) else some (-1))))
set_option maxHeartbeats 4000000 in
set_option maxRecDepth 100000 in
theorem c_X10_chainAt (l : Launch) (G : GT) (N : Nat) (uX uE uM uC : Nat → Nat) (xX0 xX2 xX4 xX8 xX9 xX10 xX11 xX12 xX13 : Nat) (qX : Nat → Option Nat) (iX : Nat → Int32) (iE : Nat → Int32) (sE : Nat → Nat → Int32) (iM : Nat → Int32) (sM : Nat → Nat → Int32) (iC : Nat → Int32) (tC : Nat → Nat → Int64) (sC : Nat → Nat → Int32) (p1 : Int32) {r : Int32} (hf : f_X10_chainAt N qX iX iE sE iM sM iC tC sC p1 = some r) : CI l G yX10_chainAt cX10_chainAt 2 .int 1 [.ref (uX 0), .int p1] (gX G uX xX0 (uC 0) xX2 (uM 0) xX4 (uE 0) xX8 xX9 xX10 xX11 xX12 xX13 qX iX ++ gE G uE (uC 0) (uM 0) iE sE ++ gM G uM (uC 0) iM sM ++ gC G uC iC tC sC) r (gX G uX xX0 (uC 0) xX2 (uM 0) xX4 (uE 0) xX8 xX9 xX10 xX11 xX12 xX13 qX iX ++ gE G uE (uC 0) (uM 0) iE sE ++ gM G uM (uC 0) iM sM ++ gC G uC iC tC sC) := by
  refine CI.of (by decide) (Nat.le_of_ble_eq_true rfl) ?_
  intro p e s m args below meth c A X hA hP hD hS ls hl
  have hl : lv_has ls 2 [(0, .ref (uX 0)), (1, .int p1)] := hl
  generalize hQ : MQ below (QI G A r (gX G uX xX0 (uC 0) xX2 (uM 0) xX4 (uE 0) xX8 xX9 xX10 xX11 xX12 xX13 qX iX ++ gE G uE (uC 0) (uM 0) iE sE ++ gM G uM (uC 0) iM sM ++ gC G uC iC tC sC)) args s 0 0 A = QQ
  unfold f_X10_chainAt at hf
  refine lv_iload_n X.hx X.hb dX10_chainAt_0 rfl (lv_at hl 1 rfl) ?_
  refine lv_if_lt (tgt := 21) X.hx X.hb dX10_chainAt_1 (by decide) (fun hc_1 => ?_) (fun hc_1 => ?_)
  · replace hf := if_t hf hc_1
    refine lv_iconst (v := (-1)) X.hx X.hb dX10_chainAt_21 (by decide) ?_
    cases hf
    subst hQ
    exact r_iret X hP hD hS dX10_chainAt_22
  · replace hf := if_f hf hc_1
    refine lv_iload_n X.hx X.hb dX10_chainAt_4 rfl (lv_at hl 1 rfl) ?_
    refine lv_aload_n X.hx X.hb dX10_chainAt_5 rfl (lv_at hl 0 rfl) ?_
    refine gf_X10_57 X hP 0 rfl (v := .ref (uE 0)) rfl dX10_chainAt_6 ?_
    refine gf_X10_266 X hP 2 rfl (v := .int (iE 4)) rfl dX10_chainAt_9 ?_
    refine lv_icmp_ge (tgt := 21) X.hx X.hb dX10_chainAt_12 (by decide) (fun hc_2 => ?_) (fun hc_2 => ?_)
    · replace hf := if_t hf hc_2
      refine lv_iconst (v := (-1)) X.hx X.hb dX10_chainAt_21 (by decide) ?_
      cases hf
      subst hQ
      exact r_iret X hP hD hS dX10_chainAt_22
    · replace hf := if_f hf hc_2
      refine lv_iload_n X.hx X.hb dX10_chainAt_15 rfl (lv_at hl 1 rfl) ?_
      refine lv_bipush (v := 7) X.hx X.hb dX10_chainAt_16 (by decide) ?_
      refine lv_icmp_lt (tgt := 23) X.hx X.hb dX10_chainAt_18 (by decide) (fun hc_3 => ?_) (fun hc_3 => ?_)
      · replace hf := if_t hf hc_3
        refine lv_aload_n X.hx X.hb dX10_chainAt_23 rfl (lv_at hl 0 rfl) ?_
        refine gf_X10_57 X hP 0 rfl (v := .ref (uE 0)) rfl dX10_chainAt_24 ?_
        refine gf_X10_269 X hP 2 rfl (v := .ref (uE 6)) rfl dX10_chainAt_27 ?_
        refine lv_iload_n X.hx X.hb dX10_chainAt_30 rfl (lv_at hl 1 rfl) ?_
        obtain ⟨hi_4, hf⟩ := ck_i hf
        refine r_iald X hP 3 (f := (sE 5)) rfl hi_4 dX10_chainAt_31 ?_
        cases hf
        subst hQ
        exact r_iret X hP hD hS dX10_chainAt_32
      · replace hf := if_f hf hc_3
        refine lv_iconst (v := (-1)) X.hx X.hb dX10_chainAt_21 (by decide) ?_
        cases hf
        subst hQ
        exact r_iret X hP hD hS dX10_chainAt_22

def f_X10_out (N : Nat) (qX : Nat → Option Nat) (iX : Nat → Int32) (iE : Nat → Int32) (sE : Nat → Nat → Int32) (iM : Nat → Int32) (sM : Nat → Nat → Int32) (iC : Nat → Int32) (tC : Nat → Nat → Int64) (sC : Nat → Nat → Int32) (p1 : Int32) : Option (Int32) :=
  bd (f_X1_isPerson N iC tC sC p1) (fun r_1 => (if r_1 = 0 then some (-1) else bd (f_X9_daysTillOut N iE sE iM sM iC tC sC p1) (fun r_4 => some r_4)))
set_option maxHeartbeats 4000000 in
set_option maxRecDepth 100000 in
theorem c_X10_out (l : Launch) (G : GT) (N : Nat) (uX uE uM uC : Nat → Nat) (xX0 xX2 xX4 xX8 xX9 xX10 xX11 xX12 xX13 : Nat) (qX : Nat → Option Nat) (iX : Nat → Int32) (iE : Nat → Int32) (sE : Nat → Nat → Int32) (iM : Nat → Int32) (sM : Nat → Nat → Int32) (iC : Nat → Int32) (tC : Nat → Nat → Int64) (sC : Nat → Nat → Int32) (p1 : Int32) {r : Int32} (hf : f_X10_out N qX iX iE sE iM sM iC tC sC p1 = some r) : CI l G yX10_out cX10_out 2 .int 4 [.ref (uX 0), .int p1] (gX G uX xX0 (uC 0) xX2 (uM 0) xX4 (uE 0) xX8 xX9 xX10 xX11 xX12 xX13 qX iX ++ gE G uE (uC 0) (uM 0) iE sE ++ gM G uM (uC 0) iM sM ++ gC G uC iC tC sC) r (gX G uX xX0 (uC 0) xX2 (uM 0) xX4 (uE 0) xX8 xX9 xX10 xX11 xX12 xX13 qX iX ++ gE G uE (uC 0) (uM 0) iE sE ++ gM G uM (uC 0) iM sM ++ gC G uC iC tC sC) := by
  refine CI.of (by decide) (Nat.le_of_ble_eq_true rfl) ?_
  intro p e s m args below meth c A X hA hP hD hS ls hl
  have hl : lv_has ls 2 [(0, .ref (uX 0)), (1, .int p1)] := hl
  generalize hQ : MQ below (QI G A r (gX G uX xX0 (uC 0) xX2 (uM 0) xX4 (uE 0) xX8 xX9 xX10 xX11 xX12 xX13 qX iX ++ gE G uE (uC 0) (uM 0) iE sE ++ gM G uM (uC 0) iM sM ++ gC G uC iC tC sC)) args s 0 0 A = QQ
  unfold f_X10_out at hf
  refine lv_aload_n X.hx X.hb dX10_out_0 rfl (lv_at hl 0 rfl) ?_
  refine gf_X10_19 X hP 0 rfl (v := .ref (uC 0)) rfl dX10_out_1 ?_
  refine lv_iload_n X.hx X.hb dX10_out_4 rfl (lv_at hl 1 rfl) ?_
  obtain ⟨r_1, hc_2, hf⟩ := bd_i hf
  refine r_bvi (gX G uX xX0 (uC 0) xX2 (uM 0) xX4 (uE 0) xX8 xX9 xX10 xX11 xX12 xX13 qX iX ++ gE G uE (uC 0) (uM 0) iE sE ++ gM G uM (uC 0) iM sM) ([] : va_W) (As := [.int p1]) (rest := []) X sm_X10_134 (c_X1_isPerson l G N uC iC tC sC p1 hc_2) hP hD hS hA (by simp only [List.append_assoc, List.append_nil, List.nil_append]) (wo := (gX G uX xX0 (uC 0) xX2 (uM 0) xX4 (uE 0) xX8 xX9 xX10 xX11 xX12 xX13 qX iX ++ gE G uE (uC 0) (uM 0) iE sE ++ gM G uM (uC 0) iM sM ++ gC G uC iC tC sC)) (by simp only [List.append_assoc, List.append_nil, List.nil_append]) 0 rfl rfl rfl hl.1 (lv_room (Nat.le_of_ble_eq_true rfl)) ⟨Nat.le_of_ble_eq_true rfl, Nat.le_of_ble_eq_true rfl⟩ ⟨Nat.zero_le _, Nat.zero_le _⟩ dX10_out_5 (fun H locs hP hD hS => ?_)
  refine lv_if_eq (tgt := 22) X.hx X.hb dX10_out_8 (by decide) (fun hc_3 => ?_) (fun hc_3 => ?_)
  · replace hf := if_t hf hc_3
    refine lv_iconst (v := (-1)) X.hx X.hb dX10_out_22 (by decide) ?_
    cases hf
    subst hQ
    exact r_iret X hP hD hS dX10_out_23
  · replace hf := if_f hf hc_3
    refine lv_aload_n X.hx X.hb dX10_out_11 rfl (lv_at hl 0 rfl) ?_
    refine gf_X10_57 X hP 0 rfl (v := .ref (uE 0)) rfl dX10_out_12 ?_
    refine lv_iload_n X.hx X.hb dX10_out_15 rfl (lv_at hl 1 rfl) ?_
    obtain ⟨r_4, hc_5, hf⟩ := bd_i hf
    refine r_bvi (gX G uX xX0 (uC 0) xX2 (uM 0) xX4 (uE 0) xX8 xX9 xX10 xX11 xX12 xX13 qX iX) ([] : va_W) (As := [.int p1]) (rest := []) X sm_X10_272 (c_X9_daysTillOut l G N uE uM uC iE sE iM sM iC tC sC p1 hc_5) hP hD hS hA (by simp only [List.append_assoc, List.append_nil, List.nil_append]) (wo := (gX G uX xX0 (uC 0) xX2 (uM 0) xX4 (uE 0) xX8 xX9 xX10 xX11 xX12 xX13 qX iX ++ gE G uE (uC 0) (uM 0) iE sE ++ gM G uM (uC 0) iM sM ++ gC G uC iC tC sC)) (by simp only [List.append_assoc, List.append_nil, List.nil_append]) 0 rfl rfl rfl hl.1 (lv_room (Nat.le_of_ble_eq_true rfl)) ⟨Nat.le_of_ble_eq_true rfl, Nat.le_of_ble_eq_true rfl⟩ ⟨Nat.zero_le _, Nat.zero_le _⟩ dX10_out_16 (fun H locs hP hD hS => ?_)
    refine lv_goto (tgt := 23) X.hx X.hb dX10_out_19 (by decide) ?_
    cases hf
    subst hQ
    exact r_iret X hP hD hS dX10_out_23

def f_X10_apart (N : Nat) (qX : Nat → Option Nat) (iX : Nat → Int32) (iE : Nat → Int32) (sE : Nat → Nat → Int32) (iM : Nat → Int32) (sM : Nat → Nat → Int32) (iC : Nat → Int32) (tC : Nat → Nat → Int64) (sC : Nat → Nat → Int32) (p1 : Int32) (p2 : Int32) : Option (Int32 × (Nat → Int32)) :=
  bd (f_X10_areTwo N qX iX iC tC sC p1 p2) (fun r_1 => (if r_1 = 0 then some ((-1), iE) else bd (f_X4_known N iM sM iC tC sC p1) (fun r_4 => bd (f_X10_has N r_4 p2) (fun r_6 => (if r_6 = 0 then bd (f_X9_fewestForgotten N iE sE iM sM iC tC sC p1 p2) (fun (r_9, iE_10) => some (r_9, iE_10)) else some ((-1), iE))))))
set_option maxHeartbeats 4000000 in
set_option maxRecDepth 100000 in
theorem c_X10_apart (l : Launch) (G : GT) (N : Nat) (uX uE uM uC : Nat → Nat) (xX0 xX2 xX4 xX8 xX9 xX10 xX11 xX12 xX13 : Nat) (qX : Nat → Option Nat) (iX : Nat → Int32) (iE : Nat → Int32) (sE : Nat → Nat → Int32) (iM : Nat → Int32) (sM : Nat → Nat → Int32) (iC : Nat → Int32) (tC : Nat → Nat → Int64) (sC : Nat → Nat → Int32) (p1 : Int32) (p2 : Int32) {r : Int32} {iE' : Nat → Int32} (hf : f_X10_apart N qX iX iE sE iM sM iC tC sC p1 p2 = some (r, iE')) : CI l G yX10_apart cX10_apart 3 .int 5 [.ref (uX 0), .int p1, .int p2] (gX G uX xX0 (uC 0) xX2 (uM 0) xX4 (uE 0) xX8 xX9 xX10 xX11 xX12 xX13 qX iX ++ gE G uE (uC 0) (uM 0) iE sE ++ gM G uM (uC 0) iM sM ++ gC G uC iC tC sC) r (gX G uX xX0 (uC 0) xX2 (uM 0) xX4 (uE 0) xX8 xX9 xX10 xX11 xX12 xX13 qX iX ++ gE G uE (uC 0) (uM 0) iE' sE ++ gM G uM (uC 0) iM sM ++ gC G uC iC tC sC) := by
  refine CI.of (by decide) (Nat.le_of_ble_eq_true rfl) ?_
  intro p e s m args below meth c A X hA hP hD hS ls hl
  have hl : lv_has ls 3 [(0, .ref (uX 0)), (1, .int p1), (2, .int p2)] := hl
  generalize hQ : MQ below (QI G A r (gX G uX xX0 (uC 0) xX2 (uM 0) xX4 (uE 0) xX8 xX9 xX10 xX11 xX12 xX13 qX iX ++ gE G uE (uC 0) (uM 0) iE' sE ++ gM G uM (uC 0) iM sM ++ gC G uC iC tC sC)) args s 0 0 A = QQ
  unfold f_X10_apart at hf
  refine lv_aload_n X.hx X.hb dX10_apart_0 rfl (lv_at hl 0 rfl) ?_
  refine lv_iload_n X.hx X.hb dX10_apart_1 rfl (lv_at hl 1 rfl) ?_
  refine lv_iload_n X.hx X.hb dX10_apart_2 rfl (lv_at hl 2 rfl) ?_
  obtain ⟨r_1, hc_2, hf⟩ := bd_i hf
  refine r_pvi [gX G uX xX0 (uC 0) xX2 (uM 0) xX4 (uE 0) xX8 xX9 xX10 xX11 xX12 xX13 qX iX, gE G uE (uC 0) (uM 0) iE sE, gM G uM (uC 0) iM sM, gC G uC iC tC sC] [gX G uX xX0 (uC 0) xX2 (uM 0) xX4 (uE 0) xX8 xX9 xX10 xX11 xX12 xX13 qX iX, gE G uE (uC 0) (uM 0) iE sE, gM G uM (uC 0) iM sM, gC G uC iC tC sC] [gX G uX xX0 (uC 0) xX2 (uM 0) xX4 (uE 0) xX8 xX9 xX10 xX11 xX12 xX13 qX iX, gC G uC iC tC sC] [gX G uX xX0 (uC 0) xX2 (uM 0) xX4 (uE 0) xX8 xX9 xX10 xX11 xX12 xX13 qX iX, gC G uC iC tC sC] [gE G uE (uC 0) (uM 0) iE sE, gM G uM (uC 0) iM sM] 4 [0, 3] [1, 2] (As := [.int p1, .int p2]) (rest := []) X sm_X10_183 (c_X10_areTwo l G N uX uC xX0 xX2 (uM 0) xX4 (uE 0) xX8 xX9 xX10 xX11 xX12 xX13 qX iX iC tC sC p1 p2 hc_2) hP hD hS hA rfl rfl (by decide) (by simp only [List.flatten_cons, List.flatten_nil, List.append_assoc, List.append_nil]) rfl (by simp only [List.flatten_cons, List.flatten_nil, List.append_assoc, List.append_nil]) rfl (by simp only [List.flatten_cons, List.flatten_nil, List.append_assoc, List.append_nil]) rfl rfl (wo := (gX G uX xX0 (uC 0) xX2 (uM 0) xX4 (uE 0) xX8 xX9 xX10 xX11 xX12 xX13 qX iX ++ gE G uE (uC 0) (uM 0) iE sE ++ gM G uM (uC 0) iM sM ++ gC G uC iC tC sC)) (by simp only [List.flatten_cons, List.flatten_nil, List.append_assoc, List.append_nil]) 0 rfl rfl rfl hl.1 (lv_room (Nat.le_of_ble_eq_true rfl)) ⟨Nat.le_of_ble_eq_true rfl, Nat.le_of_ble_eq_true rfl⟩ ⟨Nat.zero_le _, Nat.zero_le _⟩ dX10_apart_3 (fun H locs hP hD hS => ?_)
  refine lv_if_eq (tgt := 24) X.hx X.hb dX10_apart_6 (by decide) (fun hc_3 => ?_) (fun hc_3 => ?_)
  · replace hf := if_t hf hc_3
    refine lv_iconst (v := (-1)) X.hx X.hb dX10_apart_24 (by decide) ?_
    cases hf
    subst hQ
    exact r_iret X hP hD hS dX10_apart_25
  · replace hf := if_f hf hc_3
    refine lv_aload_n X.hx X.hb dX10_apart_9 rfl (lv_at hl 0 rfl) ?_
    refine gf_X10_37 X hP 0 rfl (v := .ref (uM 0)) rfl dX10_apart_10 ?_
    refine lv_iload_n X.hx X.hb dX10_apart_13 rfl (lv_at hl 1 rfl) ?_
    obtain ⟨r_4, hc_5, hf⟩ := bd_i hf
    refine r_bvi (gX G uX xX0 (uC 0) xX2 (uM 0) xX4 (uE 0) xX8 xX9 xX10 xX11 xX12 xX13 qX iX ++ gE G uE (uC 0) (uM 0) iE sE) ([] : va_W) (As := [.int p1]) (rest := []) X sm_X10_145 (c_X4_known l G N uM uC iM sM iC tC sC p1 hc_5) hP hD hS hA (by simp only [List.append_assoc, List.append_nil, List.nil_append]) (wo := (gX G uX xX0 (uC 0) xX2 (uM 0) xX4 (uE 0) xX8 xX9 xX10 xX11 xX12 xX13 qX iX ++ gE G uE (uC 0) (uM 0) iE sE ++ gM G uM (uC 0) iM sM ++ gC G uC iC tC sC)) (by simp only [List.append_assoc, List.append_nil, List.nil_append]) 0 rfl rfl rfl hl.1 (lv_room (Nat.le_of_ble_eq_true rfl)) ⟨Nat.le_of_ble_eq_true rfl, Nat.le_of_ble_eq_true rfl⟩ ⟨Nat.zero_le _, Nat.zero_le _⟩ dX10_apart_14 (fun H locs hP hD hS => ?_)
    refine lv_iload_n X.hx X.hb dX10_apart_17 rfl (lv_at hl 2 rfl) ?_
    obtain ⟨r_6, hc_7, hf⟩ := bd_i hf
    refine r_cs0 (As := [.int r_4, .int p2]) (rest := []) X sm_X10_275 (c_X10_has l G N r_4 p2 hc_7) hP hD hS hA rfl hl.1 (lv_room (Nat.le_of_ble_eq_true rfl)) ⟨Nat.le_of_ble_eq_true rfl, Nat.le_of_ble_eq_true rfl⟩ ⟨Nat.zero_le _, Nat.zero_le _⟩ dX10_apart_18 (fun H locs hP hD hS => ?_)
    refine lv_if_eq (tgt := 26) X.hx X.hb dX10_apart_21 (by decide) (fun hc_8 => ?_) (fun hc_8 => ?_)
    · replace hf := if_t hf hc_8
      refine lv_aload_n X.hx X.hb dX10_apart_26 rfl (lv_at hl 0 rfl) ?_
      refine gf_X10_57 X hP 0 rfl (v := .ref (uE 0)) rfl dX10_apart_27 ?_
      refine lv_iload_n X.hx X.hb dX10_apart_30 rfl (lv_at hl 1 rfl) ?_
      refine lv_iload_n X.hx X.hb dX10_apart_31 rfl (lv_at hl 2 rfl) ?_
      obtain ⟨⟨r_9, iE_10⟩, hc_11, hf⟩ := bd_i hf
      refine r_bvi (gX G uX xX0 (uC 0) xX2 (uM 0) xX4 (uE 0) xX8 xX9 xX10 xX11 xX12 xX13 qX iX) ([] : va_W) (As := [.int p1, .int p2]) (rest := []) X sm_X10_278 (c_X9_fewestForgotten l G N uE uM uC iE sE iM sM iC tC sC p1 p2 hc_11) hP hD hS hA (by simp only [List.append_assoc, List.append_nil, List.nil_append]) (wo := (gX G uX xX0 (uC 0) xX2 (uM 0) xX4 (uE 0) xX8 xX9 xX10 xX11 xX12 xX13 qX iX ++ gE G uE (uC 0) (uM 0) iE_10 sE ++ gM G uM (uC 0) iM sM ++ gC G uC iC tC sC)) (by simp only [List.append_assoc, List.append_nil, List.nil_append]) 0 rfl rfl rfl hl.1 (lv_room (Nat.le_of_ble_eq_true rfl)) ⟨Nat.le_of_ble_eq_true rfl, Nat.le_of_ble_eq_true rfl⟩ ⟨Nat.zero_le _, Nat.zero_le _⟩ dX10_apart_32 (fun H locs hP hD hS => ?_)
      cases hf
      subst hQ
      exact r_iret X hP hD hS dX10_apart_35
    · replace hf := if_f hf hc_8
      refine lv_iconst (v := (-1)) X.hx X.hb dX10_apart_24 (by decide) ?_
      cases hf
      subst hQ
      exact r_iret X hP hD hS dX10_apart_25

def f_X10_parting (N : Nat) (qX : Nat → Option Nat) (iX : Nat → Int32) (iE : Nat → Int32) (sE : Nat → Nat → Int32) (iM : Nat → Int32) (sM : Nat → Nat → Int32) (iC : Nat → Int32) (tC : Nat → Nat → Int64) (sC : Nat → Nat → Int32) : Option (Int32) :=
  some (iE 6)
set_option maxHeartbeats 4000000 in
set_option maxRecDepth 100000 in
theorem c_X10_parting (l : Launch) (G : GT) (N : Nat) (uX uE uM uC : Nat → Nat) (xX0 xX2 xX4 xX8 xX9 xX10 xX11 xX12 xX13 : Nat) (qX : Nat → Option Nat) (iX : Nat → Int32) (iE : Nat → Int32) (sE : Nat → Nat → Int32) (iM : Nat → Int32) (sM : Nat → Nat → Int32) (iC : Nat → Int32) (tC : Nat → Nat → Int64) (sC : Nat → Nat → Int32) {r : Int32} (hf : f_X10_parting N qX iX iE sE iM sM iC tC sC = some r) : CI l G yX10_parting cX10_parting 1 .int 1 [.ref (uX 0)] (gX G uX xX0 (uC 0) xX2 (uM 0) xX4 (uE 0) xX8 xX9 xX10 xX11 xX12 xX13 qX iX ++ gE G uE (uC 0) (uM 0) iE sE ++ gM G uM (uC 0) iM sM ++ gC G uC iC tC sC) r (gX G uX xX0 (uC 0) xX2 (uM 0) xX4 (uE 0) xX8 xX9 xX10 xX11 xX12 xX13 qX iX ++ gE G uE (uC 0) (uM 0) iE sE ++ gM G uM (uC 0) iM sM ++ gC G uC iC tC sC) := by
  refine CI.of (by decide) (Nat.le_of_ble_eq_true rfl) ?_
  intro p e s m args below meth c A X hA hP hD hS ls hl
  have hl : lv_has ls 1 [(0, .ref (uX 0))] := hl
  generalize hQ : MQ below (QI G A r (gX G uX xX0 (uC 0) xX2 (uM 0) xX4 (uE 0) xX8 xX9 xX10 xX11 xX12 xX13 qX iX ++ gE G uE (uC 0) (uM 0) iE sE ++ gM G uM (uC 0) iM sM ++ gC G uC iC tC sC)) args s 0 0 A = QQ
  unfold f_X10_parting at hf
  refine lv_aload_n X.hx X.hb dX10_parting_0 rfl (lv_at hl 0 rfl) ?_
  refine gf_X10_57 X hP 0 rfl (v := .ref (uE 0)) rfl dX10_parting_1 ?_
  refine gf_X10_281 X hP 2 rfl (v := .int (iE 6)) rfl dX10_parting_4 ?_
  cases hf
  subst hQ
  exact r_iret X hP hD hS dX10_parting_7

