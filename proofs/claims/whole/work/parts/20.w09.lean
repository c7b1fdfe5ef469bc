def f_X10_told (N : Nat) (qX : Nat → Option Nat) (iX : Nat → Int32) (sB : Nat → Nat → Int32) (iB : Nat → Int32) (p1 : Int32) : Option (Int32) :=
  (if (iB 7) = 0 then some (-1) else (if p1 = 0 then some (iB 8) else (if p1 = 1 then some (iB 9) else (if p1 = 2 then some (iB 10) else (if p1 = 3 then some (iB 11) else some (-1))))))
set_option maxHeartbeats 4000000 in
set_option maxRecDepth 100000 in
theorem c_X10_told (l : Launch) (G : GT) (N : Nat) (uX uB : Nat → Nat) (xX0 xX1 xX2 xX3 xX4 xX7 xX8 xX10 xX11 xX12 xX13 xB0 xB1 : Nat) (qX : Nat → Option Nat) (iX : Nat → Int32) (sB : Nat → Nat → Int32) (iB : Nat → Int32) (p1 : Int32) {r : Int32} (hf : f_X10_told N qX iX sB iB p1 = some r) : CI l G yX10_told cX10_told 2 .int 1 [.ref (uX 0), .int p1] (gX G uX xX0 xX1 xX2 xX3 xX4 xX7 xX8 (uB 0) xX10 xX11 xX12 xX13 qX iX ++ gB G uB xB0 xB1 sB iB) r (gX G uX xX0 xX1 xX2 xX3 xX4 xX7 xX8 (uB 0) xX10 xX11 xX12 xX13 qX iX ++ gB G uB xB0 xB1 sB iB) := by
  refine CI.of (by decide) (Nat.le_of_ble_eq_true rfl) ?_
  intro p e s m args below meth c A X hA hP hD hS ls hl
  have hl : lv_has ls 2 [(0, .ref (uX 0)), (1, .int p1)] := hl
  generalize hQ : MQ below (QI G A r (gX G uX xX0 xX1 xX2 xX3 xX4 xX7 xX8 (uB 0) xX10 xX11 xX12 xX13 qX iX ++ gB G uB xB0 xB1 sB iB)) args s 0 0 A = QQ
  unfold f_X10_told at hf
  refine lv_aload_n X.hx X.hb dX10_told_0 rfl (lv_at hl 0 rfl) ?_
  refine gf_X10_73 X hP 0 rfl (v := .ref (uB 0)) rfl dX10_told_1 ?_
  refine gf_X10_309 X hP 2 rfl (v := .int (iB 7)) rfl dX10_told_4 ?_
  refine lv_if_ne (tgt := 12) X.hx X.hb dX10_told_7 (by decide) (fun hc_1 => ?_) (fun hc_1 => ?_)
  · replace hf := if_f hf hc_1
    refine lv_iload_n X.hx X.hb dX10_told_12 rfl (lv_at hl 1 rfl) ?_
    by_cases hc_2 : p1 = 0
    · replace hf := if_t hf hc_2
      refine lv_tableIn (tgt := 44) X.hx X.hb dX10_told_13 (by rw [hc_2]; decide) (by rw [hc_2]; decide) (by rw [hc_2]; rfl) (by decide) ?_
      refine lv_aload_n X.hx X.hb dX10_told_44 rfl (lv_at hl 0 rfl) ?_
      refine gf_X10_73 X hP 0 rfl (v := .ref (uB 0)) rfl dX10_told_45 ?_
      refine gf_X10_306 X hP 2 rfl (v := .int (iB 8)) rfl dX10_told_48 ?_
      cases hf
      subst hQ
      exact r_iret X hP hD hS dX10_told_51
    replace hf := if_f hf hc_2
    by_cases hc_3 : p1 = 1
    · replace hf := if_t hf hc_3
      refine lv_tableIn (tgt := 52) X.hx X.hb dX10_told_13 (by rw [hc_3]; decide) (by rw [hc_3]; decide) (by rw [hc_3]; rfl) (by decide) ?_
      refine lv_aload_n X.hx X.hb dX10_told_52 rfl (lv_at hl 0 rfl) ?_
      refine gf_X10_73 X hP 0 rfl (v := .ref (uB 0)) rfl dX10_told_53 ?_
      refine gf_X10_303 X hP 2 rfl (v := .int (iB 9)) rfl dX10_told_56 ?_
      cases hf
      subst hQ
      exact r_iret X hP hD hS dX10_told_59
    replace hf := if_f hf hc_3
    by_cases hc_4 : p1 = 2
    · replace hf := if_t hf hc_4
      refine lv_tableIn (tgt := 60) X.hx X.hb dX10_told_13 (by rw [hc_4]; decide) (by rw [hc_4]; decide) (by rw [hc_4]; rfl) (by decide) ?_
      refine lv_aload_n X.hx X.hb dX10_told_60 rfl (lv_at hl 0 rfl) ?_
      refine gf_X10_73 X hP 0 rfl (v := .ref (uB 0)) rfl dX10_told_61 ?_
      refine gf_X10_313 X hP 2 rfl (v := .int (iB 10)) rfl dX10_told_64 ?_
      cases hf
      subst hQ
      exact r_iret X hP hD hS dX10_told_67
    replace hf := if_f hf hc_4
    by_cases hc_5 : p1 = 3
    · replace hf := if_t hf hc_5
      refine lv_tableIn (tgt := 68) X.hx X.hb dX10_told_13 (by rw [hc_5]; decide) (by rw [hc_5]; decide) (by rw [hc_5]; rfl) (by decide) ?_
      refine lv_aload_n X.hx X.hb dX10_told_68 rfl (lv_at hl 0 rfl) ?_
      refine gf_X10_73 X hP 0 rfl (v := .ref (uB 0)) rfl dX10_told_69 ?_
      refine gf_X10_316 X hP 2 rfl (v := .int (iB 11)) rfl dX10_told_72 ?_
      cases hf
      subst hQ
      exact r_iret X hP hD hS dX10_told_75
    replace hf := if_f hf hc_5
    refine r_tbd (tgt := 76) X.hx X.hb dX10_told_13 [0, 1, 2, 3] (by decide) (List.forall_mem_cons.mpr ⟨lv_neT hc_2 rfl, List.forall_mem_cons.mpr ⟨lv_neT hc_3 rfl, List.forall_mem_cons.mpr ⟨lv_neT hc_4 rfl, List.forall_mem_cons.mpr ⟨lv_neT hc_5 rfl, fun _ h => absurd h List.not_mem_nil⟩⟩⟩⟩) (by decide) ?_
    refine lv_iconst (v := (-1)) X.hx X.hb dX10_told_76 (by decide) ?_
    cases hf
    subst hQ
    exact r_iret X hP hD hS dX10_told_77
  · replace hf := if_t hf hc_1
    refine lv_iconst (v := (-1)) X.hx X.hb dX10_told_10 (by decide) ?_
    cases hf
    subst hQ
    exact r_iret X hP hD hS dX10_told_11

def f_X10_sentence (N : Nat) (qX : Nat → Option Nat) (iX : Nat → Int32) (sT : Nat → Nat → Int32) (iT : Nat → Int32) (jT : Nat → Int64) (iC : Nat → Int32) (tC : Nat → Nat → Int64) (sC : Nat → Nat → Int32) (iS : Nat → Int32) (sS : Nat → Nat → Int32) (iS2 : Nat → Int32) (sS2 : Nat → Nat → Int32) : Option (Int32 × (Nat → Int32) × (Nat → Int64) × (Nat → Int32) × (Nat → Nat → Int32) × (Nat → Int32) × (Nat → Nat → Int32)) :=
  bd (f_X7_readText N sT iT jT iC tC sC iS2 sS2) (fun (r_1, iT_2, jT_3, iS2_4, sS2_5) => (if r_1 = 0 then some (((-1 : Int32) - (iT_2 12)), (va_up iT_2 1 0), jT_3, iS, sS, iS2_4, sS2_5) else bd (f_X6_copyFrom N iS sS iS2_4 sS2_5) (fun (iS_8, sS_9) => some ((iS_8 0), (va_up iT_2 1 0), jT_3, iS_8, sS_9, iS2_4, sS2_5))))
set_option maxHeartbeats 4000000 in
set_option maxRecDepth 100000 in
theorem c_X10_sentence (l : Launch) (G : GT) (N : Nat) (uX uT uC uS uQ uS2 : Nat → Nat) (xX2 xX3 xX4 xX7 xX8 xX9 xX12 xX13 : Nat) (qX : Nat → Option Nat) (iX : Nat → Int32) (sT : Nat → Nat → Int32) (iT : Nat → Int32) (jT : Nat → Int64) (iC : Nat → Int32) (tC : Nat → Nat → Int64) (sC : Nat → Nat → Int32) (iS : Nat → Int32) (sS : Nat → Nat → Int32) (iS2 : Nat → Int32) (sS2 : Nat → Nat → Int32) {r : Int32} {iT' : Nat → Int32} {jT' : Nat → Int64} {iS' : Nat → Int32} {sS' : Nat → Nat → Int32} {iS2' : Nat → Int32} {sS2' : Nat → Nat → Int32} (hf : f_X10_sentence N qX iX sT iT jT iC tC sC iS sS iS2 sS2 = some (r, iT', jT', iS', sS', iS2', sS2')) : CI l G yX10_sentence cX10_sentence 2 .int 33 [.ref (uX 0)] (gX G uX (uT 0) (uC 0) xX2 xX3 xX4 xX7 xX8 xX9 (uS 0) (uQ 0) xX12 xX13 qX iX ++ gT G uT sT iT jT ++ gC G uC iC tC sC ++ gS G uS iS sS ++ gQ G uQ (uT 0) (uC 0) (uS2 0) ++ gS G uS2 iS2 sS2) r (gX G uX (uT 0) (uC 0) xX2 xX3 xX4 xX7 xX8 xX9 (uS 0) (uQ 0) xX12 xX13 qX iX ++ gT G uT sT iT' jT' ++ gC G uC iC tC sC ++ gS G uS iS' sS' ++ gQ G uQ (uT 0) (uC 0) (uS2 0) ++ gS G uS2 iS2' sS2') := by
  refine CI.of (by decide) (Nat.le_of_ble_eq_true rfl) ?_
  intro p e s m args below meth c A X hA hP hD hS ls hl
  have hl : lv_has ls 2 [(0, .ref (uX 0))] := hl
  generalize hQ : MQ below (QI G A r (gX G uX (uT 0) (uC 0) xX2 xX3 xX4 xX7 xX8 xX9 (uS 0) (uQ 0) xX12 xX13 qX iX ++ gT G uT sT iT' jT' ++ gC G uC iC tC sC ++ gS G uS iS' sS' ++ gQ G uQ (uT 0) (uC 0) (uS2 0) ++ gS G uS2 iS2' sS2')) args s 0 0 A = QQ
  unfold f_X10_sentence at hf
  refine lv_aload_n X.hx X.hb dX10_sentence_0 rfl (lv_at hl 0 rfl) ?_
  refine gf_X10_87 X hP 0 rfl (v := .ref (uQ 0)) rfl dX10_sentence_1 ?_
  obtain ⟨⟨r_1, iT_2, jT_3, iS2_4, sS2_5⟩, hc_6, hf⟩ := bd_i hf
  refine r_cvi (As := []) (rest := []) X sm_X10_319 (c_X7_readText l G N uQ uT uC uS2 sT iT jT iC tC sC iS2 sS2 hc_6) hP hD hS hA 17 rfl rfl [17, 2, 3, 4, 5, 6, 7, 8, 9, 10, 11, 18, 19, 20, 21, 22] rfl rfl rfl (wo := (gX G uX (uT 0) (uC 0) xX2 xX3 xX4 xX7 xX8 xX9 (uS 0) (uQ 0) xX12 xX13 qX iX ++ gT G uT sT iT_2 jT_3 ++ gC G uC iC tC sC ++ gS G uS iS sS ++ gQ G uQ (uT 0) (uC 0) (uS2 0) ++ gS G uS2 iS2_4 sS2_5)) rfl rfl hl.1 (lv_room (Nat.le_of_ble_eq_true rfl)) ⟨Nat.le_of_ble_eq_true rfl, Nat.le_of_ble_eq_true rfl⟩ ⟨Nat.zero_le _, Nat.zero_le _⟩ dX10_sentence_4 (fun H locs hP hD hS => ?_)
  refine lv_istore_n (lv' := [(1, .int r_1), (0, .ref (uX 0))]) X.hx X.hb dX10_sentence_7 rfl hl (by decide) rfl (fun ls hl => ?_)
  refine lv_aload_n X.hx X.hb dX10_sentence_8 rfl (lv_at hl 1 rfl) ?_
  refine gf_X10_10 X hP 0 rfl (v := .ref (uT 0)) rfl dX10_sentence_9 ?_
  refine lv_iconst (v := 0) X.hx X.hb dX10_sentence_12 (by decide) ?_
  refine pf_X10_112 X hP hD hS 2 rfl rfl rfl (Nat.le_of_ble_eq_true rfl) (wo := (gX G uX (uT 0) (uC 0) xX2 xX3 xX4 xX7 xX8 xX9 (uS 0) (uQ 0) xX12 xX13 qX iX ++ gT G uT sT (va_up iT_2 1 0) jT_3 ++ gC G uC iC tC sC ++ gS G uS iS sS ++ gQ G uQ (uT 0) (uC 0) (uS2 0) ++ gS G uS2 iS2_4 sS2_5)) rfl dX10_sentence_13 (fun H locs hP hD hS => ?_)
  refine lv_iload_n X.hx X.hb dX10_sentence_16 rfl (lv_at hl 0 rfl) ?_
  refine lv_if_ne (tgt := 30) X.hx X.hb dX10_sentence_17 (by decide) (fun hc_7 => ?_) (fun hc_7 => ?_)
  · replace hf := if_f hf hc_7
    refine lv_aload_n X.hx X.hb dX10_sentence_30 rfl (lv_at hl 1 rfl) ?_
    refine gf_X10_80 X hP 0 rfl (v := .ref (uS 0)) rfl dX10_sentence_31 ?_
    refine lv_aload_n X.hx X.hb dX10_sentence_34 rfl (lv_at hl 1 rfl) ?_
    refine gf_X10_87 X hP 0 rfl (v := .ref (uQ 0)) rfl dX10_sentence_35 ?_
    refine gf_X10_320 X hP 17 rfl (v := .ref (uS2 0)) rfl dX10_sentence_38 ?_
    obtain ⟨⟨iS_8, sS_9⟩, hc_10, hf⟩ := bd_i hf
    refine r_cvv (As := [.ref (uS2 0)]) (rest := []) X sm_X10_322 (c_X6_copyFrom l G N uS uS2 iS sS iS2_4 sS2_5 hc_10) hP hD hS hA 12 rfl rfl [12, 13, 14, 15, 16, 18, 19, 20, 21, 22] rfl rfl rfl (wo := (gX G uX (uT 0) (uC 0) xX2 xX3 xX4 xX7 xX8 xX9 (uS 0) (uQ 0) xX12 xX13 qX iX ++ gT G uT sT (va_up iT_2 1 0) jT_3 ++ gC G uC iC tC sC ++ gS G uS iS_8 sS_9 ++ gQ G uQ (uT 0) (uC 0) (uS2 0) ++ gS G uS2 iS2_4 sS2_5)) rfl rfl hl.1 (lv_room (Nat.le_of_ble_eq_true rfl)) ⟨Nat.le_of_ble_eq_true rfl, Nat.le_of_ble_eq_true rfl⟩ ⟨Nat.zero_le _, Nat.zero_le _⟩ dX10_sentence_41 (fun H locs hP hD hS => ?_)
    refine lv_aload_n X.hx X.hb dX10_sentence_44 rfl (lv_at hl 1 rfl) ?_
    refine gf_X10_80 X hP 0 rfl (v := .ref (uS 0)) rfl dX10_sentence_45 ?_
    refine gf_X10_325 X hP 12 rfl (v := .int (iS_8 0)) rfl dX10_sentence_48 ?_
    cases hf
    subst hQ
    exact r_iret X hP hD hS dX10_sentence_51
  · replace hf := if_t hf hc_7
    refine lv_iconst (v := (-1)) X.hx X.hb dX10_sentence_20 (by decide) ?_
    refine lv_aload_n X.hx X.hb dX10_sentence_21 rfl (lv_at hl 1 rfl) ?_
    refine gf_X10_10 X hP 0 rfl (v := .ref (uT 0)) rfl dX10_sentence_22 ?_
    refine gf_X10_119 X hP 2 rfl (v := .int (iT_2 12)) rfl dX10_sentence_25 ?_
    refine lv_isub X.hx X.hb dX10_sentence_28 ?_
    cases hf
    subst hQ
    exact r_iret X hP hD hS dX10_sentence_29

def f_X10_said (N : Nat) (qX : Nat → Option Nat) (iX : Nat → Int32) (iC : Nat → Int32) (tC : Nat → Nat → Int64) (sC : Nat → Nat → Int32) (iM : Nat → Int32) (sM : Nat → Nat → Int32) (iS : Nat → Int32) (sS : Nat → Nat → Int32) (p1 : Int32) : Option (Int32 × (Nat → Nat → Int32)) :=
  (if (iS 0) = 0 then some ((-1), sS) else (if ((-1) : Int32) ≤ p1 then bd (f_X6_trueOf N iS sS iC tC sC iM sM) (fun (r_3, sS_4) => (if p1 = (-1) then bd (f_J6_bitCount_0f7a4 N r_3) (fun r_9 => some (r_9, sS_4)) else bd (f_X10_bitAt N r_3 p1) (fun r_7 => some (r_7, sS_4)))) else some ((-1), sS)))
set_option maxHeartbeats 4000000 in
set_option maxRecDepth 100000 in
theorem c_X10_said (l : Launch) (G : GT) (N : Nat) (uX uC uM uS : Nat → Nat) (xX0 xX2 xX4 xX7 xX8 xX9 xX11 xX12 xX13 : Nat) (qX : Nat → Option Nat) (iX : Nat → Int32) (iC : Nat → Int32) (tC : Nat → Nat → Int64) (sC : Nat → Nat → Int32) (iM : Nat → Int32) (sM : Nat → Nat → Int32) (iS : Nat → Int32) (sS : Nat → Nat → Int32) (p1 : Int32) {r : Int32} {sS' : Nat → Nat → Int32} (hf : f_X10_said N qX iX iC tC sC iM sM iS sS p1 = some (r, sS')) : CI l G yX10_said cX10_said 3 .int 6 [.ref (uX 0), .int p1] (gX G uX xX0 (uC 0) xX2 (uM 0) xX4 xX7 xX8 xX9 (uS 0) xX11 xX12 xX13 qX iX ++ gC G uC iC tC sC ++ gM G uM (uC 0) iM sM ++ gS G uS iS sS) r (gX G uX xX0 (uC 0) xX2 (uM 0) xX4 xX7 xX8 xX9 (uS 0) xX11 xX12 xX13 qX iX ++ gC G uC iC tC sC ++ gM G uM (uC 0) iM sM ++ gS G uS iS sS') := by
  refine CI.of (by decide) (Nat.le_of_ble_eq_true rfl) ?_
  intro p e s m args below meth c A X hA hP hD hS ls hl
  have hl : lv_has ls 3 [(0, .ref (uX 0)), (1, .int p1)] := hl
  generalize hQ : MQ below (QI G A r (gX G uX xX0 (uC 0) xX2 (uM 0) xX4 xX7 xX8 xX9 (uS 0) xX11 xX12 xX13 qX iX ++ gC G uC iC tC sC ++ gM G uM (uC 0) iM sM ++ gS G uS iS sS')) args s 0 0 A = QQ
  unfold f_X10_said at hf
  refine lv_aload_n X.hx X.hb dX10_said_0 rfl (lv_at hl 0 rfl) ?_
  refine gf_X10_80 X hP 0 rfl (v := .ref (uS 0)) rfl dX10_said_1 ?_
  refine gf_X10_325 X hP 17 rfl (v := .int (iS 0)) rfl dX10_said_4 ?_
  refine lv_if_eq (tgt := 15) X.hx X.hb dX10_said_7 (by decide) (fun hc_1 => ?_) (fun hc_1 => ?_)
  · replace hf := if_t hf hc_1
    refine lv_iconst (v := (-1)) X.hx X.hb dX10_said_15 (by decide) ?_
    cases hf
    subst hQ
    exact r_iret X hP hD hS dX10_said_16
  · replace hf := if_f hf hc_1
    refine lv_iload_n X.hx X.hb dX10_said_10 rfl (lv_at hl 1 rfl) ?_
    refine lv_iconst (v := (-1)) X.hx X.hb dX10_said_11 (by decide) ?_
    refine lv_icmp_ge (tgt := 17) X.hx X.hb dX10_said_12 (by decide) (fun hc_2 => ?_) (fun hc_2 => ?_)
    · replace hf := if_t hf hc_2
      refine lv_aload_n X.hx X.hb dX10_said_17 rfl (lv_at hl 0 rfl) ?_
      refine gf_X10_80 X hP 0 rfl (v := .ref (uS 0)) rfl dX10_said_18 ?_
      refine lv_aload_n X.hx X.hb dX10_said_21 rfl (lv_at hl 0 rfl) ?_
      refine gf_X10_19 X hP 0 rfl (v := .ref (uC 0)) rfl dX10_said_22 ?_
      refine lv_aload_n X.hx X.hb dX10_said_25 rfl (lv_at hl 0 rfl) ?_
      refine gf_X10_37 X hP 0 rfl (v := .ref (uM 0)) rfl dX10_said_26 ?_
      obtain ⟨⟨r_3, sS_4⟩, hc_5, hf⟩ := bd_i hf
      refine r_cvi (As := [.ref (uC 0), .ref (uM 0)]) (rest := []) X sm_X10_328 (c_X6_trueOf l G N uS uC uM iS sS iC tC sC iM sM hc_5) hP hD hS hA 17 rfl rfl [17, 18, 19, 20, 21, 2, 3, 4, 5, 6, 7, 8, 9, 10, 11, 12, 13, 14, 15, 16] rfl rfl rfl (wo := (gX G uX xX0 (uC 0) xX2 (uM 0) xX4 xX7 xX8 xX9 (uS 0) xX11 xX12 xX13 qX iX ++ gC G uC iC tC sC ++ gM G uM (uC 0) iM sM ++ gS G uS iS sS_4)) rfl rfl hl.1 (lv_room (Nat.le_of_ble_eq_true rfl)) ⟨Nat.le_of_ble_eq_true rfl, Nat.le_of_ble_eq_true rfl⟩ ⟨Nat.zero_le _, Nat.zero_le _⟩ dX10_said_29 (fun H locs hP hD hS => ?_)
      refine lv_istore_n (lv' := [(2, .int r_3), (0, .ref (uX 0)), (1, .int p1)]) X.hx X.hb dX10_said_32 rfl hl (by decide) rfl (fun ls hl => ?_)
      refine lv_iload_n X.hx X.hb dX10_said_33 rfl (lv_at hl 2 rfl) ?_
      refine lv_iconst (v := (-1)) X.hx X.hb dX10_said_34 (by decide) ?_
      refine lv_icmp_ne (tgt := 45) X.hx X.hb dX10_said_35 (by decide) (fun hc_6 => ?_) (fun hc_6 => ?_)
      · replace hf := if_f hf hc_6
        refine lv_iload_n X.hx X.hb dX10_said_45 rfl (lv_at hl 0 rfl) ?_
        refine lv_iload_n X.hx X.hb dX10_said_46 rfl (lv_at hl 2 rfl) ?_
        obtain ⟨r_7, hc_8, hf⟩ := bd_i hf
        refine r_cs0 (As := [.int r_3, .int p1]) (rest := []) X sm_X10_337 (c_X10_bitAt l G N r_3 p1 hc_8) hP hD hS hA rfl hl.1 (lv_room (Nat.le_of_ble_eq_true rfl)) ⟨Nat.le_of_ble_eq_true rfl, Nat.le_of_ble_eq_true rfl⟩ ⟨Nat.zero_le _, Nat.zero_le _⟩ dX10_said_47 (fun H locs hP hD hS => ?_)
        cases hf
        subst hQ
        exact r_iret X hP hD hS dX10_said_50
      · replace hf := if_t hf hc_6
        refine lv_iload_n X.hx X.hb dX10_said_38 rfl (lv_at hl 0 rfl) ?_
        obtain ⟨r_9, hc_10, hf⟩ := bd_i hf
        refine r_cs0 (As := [.int r_3]) (rest := []) X sm_X10_332 (c_J6_bitCount_0f7a4 l G N r_3 hc_10) hP hD hS hA rfl hl.1 (lv_room (Nat.le_of_ble_eq_true rfl)) ⟨Nat.le_of_ble_eq_true rfl, Nat.le_of_ble_eq_true rfl⟩ ⟨Nat.zero_le _, Nat.zero_le _⟩ dX10_said_39 (fun H locs hP hD hS => ?_)
        refine lv_goto (tgt := 50) X.hx X.hb dX10_said_42 (by decide) ?_
        cases hf
        subst hQ
        exact r_iret X hP hD hS dX10_said_50
    · replace hf := if_f hf hc_2
      refine lv_iconst (v := (-1)) X.hx X.hb dX10_said_15 (by decide) ?_
      cases hf
      subst hQ
      exact r_iret X hP hD hS dX10_said_16

def f_X10_count (N : Nat) (qX : Nat → Option Nat) (iX : Nat → Int32) (iC : Nat → Int32) (tC : Nat → Nat → Int64) (sC : Nat → Nat → Int32) (sT : Nat → Nat → Int32) (iT : Nat → Int32) (jT : Nat → Int64) (p1 : Int32) : Option (Int32) :=
  (if p1 = 0 then some (iC 0) else (if p1 = 1 then some (iC 1) else (if p1 = 2 then some (iC 9) else (if p1 = 3 then some (iC 10) else (if p1 = 4 then some (iC 11) else (if p1 = 5 then some (iT 1) else some (-1)))))))
set_option maxHeartbeats 4000000 in
set_option maxRecDepth 100000 in
theorem c_X10_count (l : Launch) (G : GT) (N : Nat) (uX uC uT : Nat → Nat) (xX2 xX3 xX4 xX7 xX8 xX9 xX10 xX11 xX12 xX13 : Nat) (qX : Nat → Option Nat) (iX : Nat → Int32) (iC : Nat → Int32) (tC : Nat → Nat → Int64) (sC : Nat → Nat → Int32) (sT : Nat → Nat → Int32) (iT : Nat → Int32) (jT : Nat → Int64) (p1 : Int32) {r : Int32} (hf : f_X10_count N qX iX iC tC sC sT iT jT p1 = some r) : CI l G yX10_count cX10_count 2 .int 1 [.ref (uX 0), .int p1] (gX G uX (uT 0) (uC 0) xX2 xX3 xX4 xX7 xX8 xX9 xX10 xX11 xX12 xX13 qX iX ++ gC G uC iC tC sC ++ gT G uT sT iT jT) r (gX G uX (uT 0) (uC 0) xX2 xX3 xX4 xX7 xX8 xX9 xX10 xX11 xX12 xX13 qX iX ++ gC G uC iC tC sC ++ gT G uT sT iT jT) := by
  refine CI.of (by decide) (Nat.le_of_ble_eq_true rfl) ?_
  intro p e s m args below meth c A X hA hP hD hS ls hl
  have hl : lv_has ls 2 [(0, .ref (uX 0)), (1, .int p1)] := hl
  generalize hQ : MQ below (QI G A r (gX G uX (uT 0) (uC 0) xX2 xX3 xX4 xX7 xX8 xX9 xX10 xX11 xX12 xX13 qX iX ++ gC G uC iC tC sC ++ gT G uT sT iT jT)) args s 0 0 A = QQ
  unfold f_X10_count at hf
  refine lv_iload_n X.hx X.hb dX10_count_0 rfl (lv_at hl 1 rfl) ?_
  by_cases hc_1 : p1 = 0
  · replace hf := if_t hf hc_1
    refine lv_tableIn (tgt := 40) X.hx X.hb dX10_count_1 (by rw [hc_1]; decide) (by rw [hc_1]; decide) (by rw [hc_1]; rfl) (by decide) ?_
    refine lv_aload_n X.hx X.hb dX10_count_40 rfl (lv_at hl 0 rfl) ?_
    refine gf_X10_19 X hP 0 rfl (v := .ref (uC 0)) rfl dX10_count_41 ?_
    refine gf_X10_346 X hP 2 rfl (v := .int (iC 0)) rfl dX10_count_44 ?_
    cases hf
    subst hQ
    exact r_iret X hP hD hS dX10_count_47
  replace hf := if_f hf hc_1
  by_cases hc_2 : p1 = 1
  · replace hf := if_t hf hc_2
    refine lv_tableIn (tgt := 48) X.hx X.hb dX10_count_1 (by rw [hc_2]; decide) (by rw [hc_2]; decide) (by rw [hc_2]; rfl) (by decide) ?_
    refine lv_aload_n X.hx X.hb dX10_count_48 rfl (lv_at hl 0 rfl) ?_
    refine gf_X10_19 X hP 0 rfl (v := .ref (uC 0)) rfl dX10_count_49 ?_
    refine gf_X10_349 X hP 2 rfl (v := .int (iC 1)) rfl dX10_count_52 ?_
    cases hf
    subst hQ
    exact r_iret X hP hD hS dX10_count_55
  replace hf := if_f hf hc_2
  by_cases hc_3 : p1 = 2
  · replace hf := if_t hf hc_3
    refine lv_tableIn (tgt := 56) X.hx X.hb dX10_count_1 (by rw [hc_3]; decide) (by rw [hc_3]; decide) (by rw [hc_3]; rfl) (by decide) ?_
    refine lv_aload_n X.hx X.hb dX10_count_56 rfl (lv_at hl 0 rfl) ?_
    refine gf_X10_19 X hP 0 rfl (v := .ref (uC 0)) rfl dX10_count_57 ?_
    refine gf_X10_352 X hP 2 rfl (v := .int (iC 9)) rfl dX10_count_60 ?_
    cases hf
    subst hQ
    exact r_iret X hP hD hS dX10_count_63
  replace hf := if_f hf hc_3
  by_cases hc_4 : p1 = 3
  · replace hf := if_t hf hc_4
    refine lv_tableIn (tgt := 64) X.hx X.hb dX10_count_1 (by rw [hc_4]; decide) (by rw [hc_4]; decide) (by rw [hc_4]; rfl) (by decide) ?_
    refine lv_aload_n X.hx X.hb dX10_count_64 rfl (lv_at hl 0 rfl) ?_
    refine gf_X10_19 X hP 0 rfl (v := .ref (uC 0)) rfl dX10_count_65 ?_
    refine gf_X10_354 X hP 2 rfl (v := .int (iC 10)) rfl dX10_count_68 ?_
    cases hf
    subst hQ
    exact r_iret X hP hD hS dX10_count_71
  replace hf := if_f hf hc_4
  by_cases hc_5 : p1 = 4
  · replace hf := if_t hf hc_5
    refine lv_tableIn (tgt := 72) X.hx X.hb dX10_count_1 (by rw [hc_5]; decide) (by rw [hc_5]; decide) (by rw [hc_5]; rfl) (by decide) ?_
    refine lv_aload_n X.hx X.hb dX10_count_72 rfl (lv_at hl 0 rfl) ?_
    refine gf_X10_19 X hP 0 rfl (v := .ref (uC 0)) rfl dX10_count_73 ?_
    refine gf_X10_357 X hP 2 rfl (v := .int (iC 11)) rfl dX10_count_76 ?_
    cases hf
    subst hQ
    exact r_iret X hP hD hS dX10_count_79
  replace hf := if_f hf hc_5
  by_cases hc_6 : p1 = 5
  · replace hf := if_t hf hc_6
    refine lv_tableIn (tgt := 80) X.hx X.hb dX10_count_1 (by rw [hc_6]; decide) (by rw [hc_6]; decide) (by rw [hc_6]; rfl) (by decide) ?_
    refine lv_aload_n X.hx X.hb dX10_count_80 rfl (lv_at hl 0 rfl) ?_
    refine gf_X10_10 X hP 0 rfl (v := .ref (uT 0)) rfl dX10_count_81 ?_
    refine gf_X10_112 X hP 10 rfl (v := .int (iT 1)) rfl dX10_count_84 ?_
    cases hf
    subst hQ
    exact r_iret X hP hD hS dX10_count_87
  replace hf := if_f hf hc_6
  refine r_tbd (tgt := 88) X.hx X.hb dX10_count_1 [0, 1, 2, 3, 4, 5] (by decide) (List.forall_mem_cons.mpr ⟨lv_neT hc_1 rfl, List.forall_mem_cons.mpr ⟨lv_neT hc_2 rfl, List.forall_mem_cons.mpr ⟨lv_neT hc_3 rfl, List.forall_mem_cons.mpr ⟨lv_neT hc_4 rfl, List.forall_mem_cons.mpr ⟨lv_neT hc_5 rfl, List.forall_mem_cons.mpr ⟨lv_neT hc_6 rfl, fun _ h => absurd h List.not_mem_nil⟩⟩⟩⟩⟩⟩) (by decide) ?_
  refine lv_iconst (v := (-1)) X.hx X.hb dX10_count_88 (by decide) ?_
  cases hf
  subst hQ
  exact r_iret X hP hD hS dX10_count_89

