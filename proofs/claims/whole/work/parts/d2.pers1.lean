/-! person of the class, where it returns -/
set_option maxHeartbeats 4000000 in
theorem c_X10_person_0 (l : Launch) (G : GT) (N : Nat) (uX uM uC : Nat → Nat) (xX0 xX2 xX4 xX7 xX8 xX9 xX10 xX11 xX12 xX13 : Nat) (qX : Nat → Option Nat) (iX : Nat → Int32) (iM : Nat → Int32) (sM : Nat → Nat → Int32) (iC : Nat → Int32) (tC : Nat → Nat → Int64) (sC : Nat → Nat → Int32) (p1 : Int32) {r : Int32} (hp : f_X1_isPerson N iC tC sC p1 = some 1) (hf : ck p1 7 (some (sM 6 (ix p1))) = some r) : CI l G yX10_person cX10_person 3 .int 3 [.ref (uX 0), .int p1, .int 0] (gX G uX xX0 (uC 0) xX2 (uM 0) xX4 xX7 xX8 xX9 xX10 xX11 xX12 xX13 qX iX ++ gM G uM (uC 0) iM sM ++ gC G uC iC tC sC) r (gX G uX xX0 (uC 0) xX2 (uM 0) xX4 xX7 xX8 xX9 xX10 xX11 xX12 xX13 qX iX ++ gM G uM (uC 0) iM sM ++ gC G uC iC tC sC) := by
  refine CI.of (by decide) (Nat.le_of_ble_eq_true rfl) ?_
  intro p e s m args below meth c A X hA hP hD hS ls hl
  have hl : lv_has ls 3 [(0, .ref (uX 0)), (1, .int p1), (2, .int 0)] := hl
  refine lv_aload_n X.hx X.hb dX10_person_0 rfl (lv_at hl 0 rfl) ?_
  refine gf_X10_19 X hP 0 rfl (v := .ref (uC 0)) rfl dX10_person_1 ?_
  refine lv_iload_n X.hx X.hb dX10_person_4 rfl (lv_at hl 1 rfl) ?_
  refine r_bvi (gX G uX xX0 (uC 0) xX2 (uM 0) xX4 xX7 xX8 xX9 xX10 xX11 xX12 xX13 qX iX ++ gM G uM (uC 0) iM sM) ([] : va_W) (As := [.int p1]) (rest := []) X sm_X10_134 (c_X1_isPerson l G N uC iC tC sC p1 hp) hP hD hS hA (by simp only [List.append_assoc, List.append_nil, List.nil_append]) (wo := (gX G uX xX0 (uC 0) xX2 (uM 0) xX4 xX7 xX8 xX9 xX10 xX11 xX12 xX13 qX iX ++ gM G uM (uC 0) iM sM ++ gC G uC iC tC sC)) (by simp only [List.append_assoc, List.append_nil, List.nil_append]) 0 rfl rfl rfl hl.1 (lv_room (Nat.le_of_ble_eq_true rfl)) ⟨Nat.le_of_ble_eq_true rfl, Nat.le_of_ble_eq_true rfl⟩ ⟨Nat.zero_le _, Nat.zero_le _⟩ dX10_person_5 (fun H locs hP hD hS => ?_)
  refine lv_if_eq (tgt := 21) X.hx X.hb dX10_person_8 (by decide) (fun hc => absurd hc (by decide)) (fun _ => ?_)
  refine lv_iload_n X.hx X.hb dX10_person_11 rfl (lv_at hl 2 rfl) ?_
  refine lv_if_lt (tgt := 21) X.hx X.hb dX10_person_12 (by decide) (fun hc => absurd hc (by decide)) (fun _ => ?_)
  refine lv_iload_n X.hx X.hb dX10_person_15 rfl (lv_at hl 2 rfl) ?_
  refine lv_bipush (v := 7) X.hx X.hb dX10_person_16 (by decide) ?_
  refine lv_icmp_le (tgt := 29) X.hx X.hb dX10_person_18 (by decide) (fun _ => ?_) (fun hc => absurd (by decide) hc)
  refine lv_iload_n X.hx X.hb dX10_person_29 rfl (lv_at hl 2 rfl) ?_
  refine lv_tableIn (off := 42) (tgt := 72) X.hx X.hb dX10_person_30 (by decide) (by decide) (by decide) (by decide) ?_
  refine lv_aload_n X.hx X.hb dX10_person_72 rfl (lv_at hl 0 rfl) ?_
  refine gf_X10_37 X hP 0 rfl (v := .ref (uM 0)) rfl dX10_person_73 ?_
  refine gf_X10_141 X hP 2 rfl (v := .ref (uM 7)) rfl dX10_person_76 ?_
  refine lv_iload_n X.hx X.hb dX10_person_79 rfl (lv_at hl 1 rfl) ?_
  obtain ⟨hin, hf⟩ := ck_i hf
  refine r_iald X hP 3 rfl hin dX10_person_80 ?_
  cases hf
  exact r_iret X hP hD hS dX10_person_81
set_option maxHeartbeats 4000000 in
theorem c_X10_person_1 (l : Launch) (G : GT) (N : Nat) (uX uM uC : Nat → Nat) (xX0 xX2 xX4 xX7 xX8 xX9 xX10 xX11 xX12 xX13 : Nat) (qX : Nat → Option Nat) (iX : Nat → Int32) (iM : Nat → Int32) (sM : Nat → Nat → Int32) (iC : Nat → Int32) (tC : Nat → Nat → Int64) (sC : Nat → Nat → Int32) (p1 : Int32) {r : Int32} (hp : f_X1_isPerson N iC tC sC p1 = some 1) (hf : f_X4_known N iM sM iC tC sC p1 = some r) : CI l G yX10_person cX10_person 3 .int 3 [.ref (uX 0), .int p1, .int 1] (gX G uX xX0 (uC 0) xX2 (uM 0) xX4 xX7 xX8 xX9 xX10 xX11 xX12 xX13 qX iX ++ gM G uM (uC 0) iM sM ++ gC G uC iC tC sC) r (gX G uX xX0 (uC 0) xX2 (uM 0) xX4 xX7 xX8 xX9 xX10 xX11 xX12 xX13 qX iX ++ gM G uM (uC 0) iM sM ++ gC G uC iC tC sC) := by
  refine CI.of (by decide) (Nat.le_of_ble_eq_true rfl) ?_
  intro p e s m args below meth c A X hA hP hD hS ls hl
  have hl : lv_has ls 3 [(0, .ref (uX 0)), (1, .int p1), (2, .int 1)] := hl
  refine lv_aload_n X.hx X.hb dX10_person_0 rfl (lv_at hl 0 rfl) ?_
  refine gf_X10_19 X hP 0 rfl (v := .ref (uC 0)) rfl dX10_person_1 ?_
  refine lv_iload_n X.hx X.hb dX10_person_4 rfl (lv_at hl 1 rfl) ?_
  refine r_bvi (gX G uX xX0 (uC 0) xX2 (uM 0) xX4 xX7 xX8 xX9 xX10 xX11 xX12 xX13 qX iX ++ gM G uM (uC 0) iM sM) ([] : va_W) (As := [.int p1]) (rest := []) X sm_X10_134 (c_X1_isPerson l G N uC iC tC sC p1 hp) hP hD hS hA (by simp only [List.append_assoc, List.append_nil, List.nil_append]) (wo := (gX G uX xX0 (uC 0) xX2 (uM 0) xX4 xX7 xX8 xX9 xX10 xX11 xX12 xX13 qX iX ++ gM G uM (uC 0) iM sM ++ gC G uC iC tC sC)) (by simp only [List.append_assoc, List.append_nil, List.nil_append]) 0 rfl rfl rfl hl.1 (lv_room (Nat.le_of_ble_eq_true rfl)) ⟨Nat.le_of_ble_eq_true rfl, Nat.le_of_ble_eq_true rfl⟩ ⟨Nat.zero_le _, Nat.zero_le _⟩ dX10_person_5 (fun H locs hP hD hS => ?_)
  refine lv_if_eq (tgt := 21) X.hx X.hb dX10_person_8 (by decide) (fun hc => absurd hc (by decide)) (fun _ => ?_)
  refine lv_iload_n X.hx X.hb dX10_person_11 rfl (lv_at hl 2 rfl) ?_
  refine lv_if_lt (tgt := 21) X.hx X.hb dX10_person_12 (by decide) (fun hc => absurd hc (by decide)) (fun _ => ?_)
  refine lv_iload_n X.hx X.hb dX10_person_15 rfl (lv_at hl 2 rfl) ?_
  refine lv_bipush (v := 7) X.hx X.hb dX10_person_16 (by decide) ?_
  refine lv_icmp_le (tgt := 29) X.hx X.hb dX10_person_18 (by decide) (fun _ => ?_) (fun hc => absurd (by decide) hc)
  refine lv_iload_n X.hx X.hb dX10_person_29 rfl (lv_at hl 2 rfl) ?_
  refine lv_tableIn (off := 52) (tgt := 82) X.hx X.hb dX10_person_30 (by decide) (by decide) (by decide) (by decide) ?_
  refine lv_aload_n X.hx X.hb dX10_person_82 rfl (lv_at hl 0 rfl) ?_
  refine gf_X10_37 X hP 0 rfl (v := .ref (uM 0)) rfl dX10_person_83 ?_
  refine lv_iload_n X.hx X.hb dX10_person_86 rfl (lv_at hl 1 rfl) ?_
  refine r_bvi (gX G uX xX0 (uC 0) xX2 (uM 0) xX4 xX7 xX8 xX9 xX10 xX11 xX12 xX13 qX iX) ([] : va_W) (As := [.int p1]) (rest := []) X sm_X10_145 (c_X4_known l G N uM uC iM sM iC tC sC p1 hf) hP hD hS hA (by simp only [List.append_assoc, List.append_nil, List.nil_append]) (wo := (gX G uX xX0 (uC 0) xX2 (uM 0) xX4 xX7 xX8 xX9 xX10 xX11 xX12 xX13 qX iX ++ gM G uM (uC 0) iM sM ++ gC G uC iC tC sC)) (by simp only [List.append_assoc, List.append_nil, List.nil_append]) 0 rfl rfl rfl hl.1 (lv_room (Nat.le_of_ble_eq_true rfl)) ⟨Nat.le_of_ble_eq_true rfl, Nat.le_of_ble_eq_true rfl⟩ ⟨Nat.zero_le _, Nat.zero_le _⟩ dX10_person_87 (fun H locs hP hD hS => ?_)
  exact r_iret X hP hD hS dX10_person_90
set_option maxHeartbeats 4000000 in
theorem c_X10_person_2 (l : Launch) (G : GT) (N : Nat) (uX uM uC : Nat → Nat) (xX0 xX2 xX4 xX7 xX8 xX9 xX10 xX11 xX12 xX13 : Nat) (qX : Nat → Option Nat) (iX : Nat → Int32) (iM : Nat → Int32) (sM : Nat → Nat → Int32) (iC : Nat → Int32) (tC : Nat → Nat → Int64) (sC : Nat → Nat → Int32) (p1 : Int32) {r : Int32} (hp : f_X1_isPerson N iC tC sC p1 = some 1) (hf : ck p1 7 (some (sC 5 (ix p1))) = some r) : CI l G yX10_person cX10_person 3 .int 3 [.ref (uX 0), .int p1, .int 2] (gX G uX xX0 (uC 0) xX2 (uM 0) xX4 xX7 xX8 xX9 xX10 xX11 xX12 xX13 qX iX ++ gM G uM (uC 0) iM sM ++ gC G uC iC tC sC) r (gX G uX xX0 (uC 0) xX2 (uM 0) xX4 xX7 xX8 xX9 xX10 xX11 xX12 xX13 qX iX ++ gM G uM (uC 0) iM sM ++ gC G uC iC tC sC) := by
  refine CI.of (by decide) (Nat.le_of_ble_eq_true rfl) ?_
  intro p e s m args below meth c A X hA hP hD hS ls hl
  have hl : lv_has ls 3 [(0, .ref (uX 0)), (1, .int p1), (2, .int 2)] := hl
  refine lv_aload_n X.hx X.hb dX10_person_0 rfl (lv_at hl 0 rfl) ?_
  refine gf_X10_19 X hP 0 rfl (v := .ref (uC 0)) rfl dX10_person_1 ?_
  refine lv_iload_n X.hx X.hb dX10_person_4 rfl (lv_at hl 1 rfl) ?_
  refine r_bvi (gX G uX xX0 (uC 0) xX2 (uM 0) xX4 xX7 xX8 xX9 xX10 xX11 xX12 xX13 qX iX ++ gM G uM (uC 0) iM sM) ([] : va_W) (As := [.int p1]) (rest := []) X sm_X10_134 (c_X1_isPerson l G N uC iC tC sC p1 hp) hP hD hS hA (by simp only [List.append_assoc, List.append_nil, List.nil_append]) (wo := (gX G uX xX0 (uC 0) xX2 (uM 0) xX4 xX7 xX8 xX9 xX10 xX11 xX12 xX13 qX iX ++ gM G uM (uC 0) iM sM ++ gC G uC iC tC sC)) (by simp only [List.append_assoc, List.append_nil, List.nil_append]) 0 rfl rfl rfl hl.1 (lv_room (Nat.le_of_ble_eq_true rfl)) ⟨Nat.le_of_ble_eq_true rfl, Nat.le_of_ble_eq_true rfl⟩ ⟨Nat.zero_le _, Nat.zero_le _⟩ dX10_person_5 (fun H locs hP hD hS => ?_)
  refine lv_if_eq (tgt := 21) X.hx X.hb dX10_person_8 (by decide) (fun hc => absurd hc (by decide)) (fun _ => ?_)
  refine lv_iload_n X.hx X.hb dX10_person_11 rfl (lv_at hl 2 rfl) ?_
  refine lv_if_lt (tgt := 21) X.hx X.hb dX10_person_12 (by decide) (fun hc => absurd hc (by decide)) (fun _ => ?_)
  refine lv_iload_n X.hx X.hb dX10_person_15 rfl (lv_at hl 2 rfl) ?_
  refine lv_bipush (v := 7) X.hx X.hb dX10_person_16 (by decide) ?_
  refine lv_icmp_le (tgt := 29) X.hx X.hb dX10_person_18 (by decide) (fun _ => ?_) (fun hc => absurd (by decide) hc)
  refine lv_iload_n X.hx X.hb dX10_person_29 rfl (lv_at hl 2 rfl) ?_
  refine lv_tableIn (off := 61) (tgt := 91) X.hx X.hb dX10_person_30 (by decide) (by decide) (by decide) (by decide) ?_
  refine lv_aload_n X.hx X.hb dX10_person_91 rfl (lv_at hl 0 rfl) ?_
  refine gf_X10_19 X hP 0 rfl (v := .ref (uC 0)) rfl dX10_person_92 ?_
  refine gf_X10_149 X hP 9 rfl (v := .ref (uC 6)) rfl dX10_person_95 ?_
  refine lv_iload_n X.hx X.hb dX10_person_98 rfl (lv_at hl 1 rfl) ?_
  obtain ⟨hin, hf⟩ := ck_i hf
  refine r_iald X hP 13 rfl hin dX10_person_99 ?_
  cases hf
  exact r_iret X hP hD hS dX10_person_100
set_option maxHeartbeats 4000000 in
theorem c_X10_person_3 (l : Launch) (G : GT) (N : Nat) (uX uM uC : Nat → Nat) (xX0 xX2 xX4 xX7 xX8 xX9 xX10 xX11 xX12 xX13 : Nat) (qX : Nat → Option Nat) (iX : Nat → Int32) (iM : Nat → Int32) (sM : Nat → Nat → Int32) (iC : Nat → Int32) (tC : Nat → Nat → Int64) (sC : Nat → Nat → Int32) (p1 : Int32) {r : Int32} (hp : f_X1_isPerson N iC tC sC p1 = some 1) (hf : f_X4_dealable N iM sM iC tC sC p1 = some r) : CI l G yX10_person cX10_person 3 .int 3 [.ref (uX 0), .int p1, .int 3] (gX G uX xX0 (uC 0) xX2 (uM 0) xX4 xX7 xX8 xX9 xX10 xX11 xX12 xX13 qX iX ++ gM G uM (uC 0) iM sM ++ gC G uC iC tC sC) r (gX G uX xX0 (uC 0) xX2 (uM 0) xX4 xX7 xX8 xX9 xX10 xX11 xX12 xX13 qX iX ++ gM G uM (uC 0) iM sM ++ gC G uC iC tC sC) := by
  refine CI.of (by decide) (Nat.le_of_ble_eq_true rfl) ?_
  intro p e s m args below meth c A X hA hP hD hS ls hl
  have hl : lv_has ls 3 [(0, .ref (uX 0)), (1, .int p1), (2, .int 3)] := hl
  refine lv_aload_n X.hx X.hb dX10_person_0 rfl (lv_at hl 0 rfl) ?_
  refine gf_X10_19 X hP 0 rfl (v := .ref (uC 0)) rfl dX10_person_1 ?_
  refine lv_iload_n X.hx X.hb dX10_person_4 rfl (lv_at hl 1 rfl) ?_
  refine r_bvi (gX G uX xX0 (uC 0) xX2 (uM 0) xX4 xX7 xX8 xX9 xX10 xX11 xX12 xX13 qX iX ++ gM G uM (uC 0) iM sM) ([] : va_W) (As := [.int p1]) (rest := []) X sm_X10_134 (c_X1_isPerson l G N uC iC tC sC p1 hp) hP hD hS hA (by simp only [List.append_assoc, List.append_nil, List.nil_append]) (wo := (gX G uX xX0 (uC 0) xX2 (uM 0) xX4 xX7 xX8 xX9 xX10 xX11 xX12 xX13 qX iX ++ gM G uM (uC 0) iM sM ++ gC G uC iC tC sC)) (by simp only [List.append_assoc, List.append_nil, List.nil_append]) 0 rfl rfl rfl hl.1 (lv_room (Nat.le_of_ble_eq_true rfl)) ⟨Nat.le_of_ble_eq_true rfl, Nat.le_of_ble_eq_true rfl⟩ ⟨Nat.zero_le _, Nat.zero_le _⟩ dX10_person_5 (fun H locs hP hD hS => ?_)
  refine lv_if_eq (tgt := 21) X.hx X.hb dX10_person_8 (by decide) (fun hc => absurd hc (by decide)) (fun _ => ?_)
  refine lv_iload_n X.hx X.hb dX10_person_11 rfl (lv_at hl 2 rfl) ?_
  refine lv_if_lt (tgt := 21) X.hx X.hb dX10_person_12 (by decide) (fun hc => absurd hc (by decide)) (fun _ => ?_)
  refine lv_iload_n X.hx X.hb dX10_person_15 rfl (lv_at hl 2 rfl) ?_
  refine lv_bipush (v := 7) X.hx X.hb dX10_person_16 (by decide) ?_
  refine lv_icmp_le (tgt := 29) X.hx X.hb dX10_person_18 (by decide) (fun _ => ?_) (fun hc => absurd (by decide) hc)
  refine lv_iload_n X.hx X.hb dX10_person_29 rfl (lv_at hl 2 rfl) ?_
  refine lv_tableIn (off := 71) (tgt := 101) X.hx X.hb dX10_person_30 (by decide) (by decide) (by decide) (by decide) ?_
  refine lv_aload_n X.hx X.hb dX10_person_101 rfl (lv_at hl 0 rfl) ?_
  refine gf_X10_37 X hP 0 rfl (v := .ref (uM 0)) rfl dX10_person_102 ?_
  refine lv_iload_n X.hx X.hb dX10_person_105 rfl (lv_at hl 1 rfl) ?_
  refine r_bvi (gX G uX xX0 (uC 0) xX2 (uM 0) xX4 xX7 xX8 xX9 xX10 xX11 xX12 xX13 qX iX) ([] : va_W) (As := [.int p1]) (rest := []) X sm_X10_152 (c_X4_dealable l G N uM uC iM sM iC tC sC p1 hf) hP hD hS hA (by simp only [List.append_assoc, List.append_nil, List.nil_append]) (wo := (gX G uX xX0 (uC 0) xX2 (uM 0) xX4 xX7 xX8 xX9 xX10 xX11 xX12 xX13 qX iX ++ gM G uM (uC 0) iM sM ++ gC G uC iC tC sC)) (by simp only [List.append_assoc, List.append_nil, List.nil_append]) 0 rfl rfl rfl hl.1 (lv_room (Nat.le_of_ble_eq_true rfl)) ⟨Nat.le_of_ble_eq_true rfl, Nat.le_of_ble_eq_true rfl⟩ ⟨Nat.zero_le _, Nat.zero_le _⟩ dX10_person_106 (fun H locs hP hD hS => ?_)
  exact r_iret X hP hD hS dX10_person_109
set_option maxHeartbeats 4000000 in
theorem c_X10_person_4 (l : Launch) (G : GT) (N : Nat) (uX uM uC : Nat → Nat) (xX0 xX2 xX4 xX7 xX8 xX9 xX10 xX11 xX12 xX13 : Nat) (qX : Nat → Option Nat) (iX : Nat → Int32) (iM : Nat → Int32) (sM : Nat → Nat → Int32) (iC : Nat → Int32) (tC : Nat → Nat → Int64) (sC : Nat → Nat → Int32) (p1 : Int32) {r : Int32} (hp : f_X1_isPerson N iC tC sC p1 = some 1) (hf : some ((us (iM 2) p1) &&& 1) = some r) : CI l G yX10_person cX10_person 3 .int 3 [.ref (uX 0), .int p1, .int 4] (gX G uX xX0 (uC 0) xX2 (uM 0) xX4 xX7 xX8 xX9 xX10 xX11 xX12 xX13 qX iX ++ gM G uM (uC 0) iM sM ++ gC G uC iC tC sC) r (gX G uX xX0 (uC 0) xX2 (uM 0) xX4 xX7 xX8 xX9 xX10 xX11 xX12 xX13 qX iX ++ gM G uM (uC 0) iM sM ++ gC G uC iC tC sC) := by
  refine CI.of (by decide) (Nat.le_of_ble_eq_true rfl) ?_
  intro p e s m args below meth c A X hA hP hD hS ls hl
  have hl : lv_has ls 3 [(0, .ref (uX 0)), (1, .int p1), (2, .int 4)] := hl
  refine lv_aload_n X.hx X.hb dX10_person_0 rfl (lv_at hl 0 rfl) ?_
  refine gf_X10_19 X hP 0 rfl (v := .ref (uC 0)) rfl dX10_person_1 ?_
  refine lv_iload_n X.hx X.hb dX10_person_4 rfl (lv_at hl 1 rfl) ?_
  refine r_bvi (gX G uX xX0 (uC 0) xX2 (uM 0) xX4 xX7 xX8 xX9 xX10 xX11 xX12 xX13 qX iX ++ gM G uM (uC 0) iM sM) ([] : va_W) (As := [.int p1]) (rest := []) X sm_X10_134 (c_X1_isPerson l G N uC iC tC sC p1 hp) hP hD hS hA (by simp only [List.append_assoc, List.append_nil, List.nil_append]) (wo := (gX G uX xX0 (uC 0) xX2 (uM 0) xX4 xX7 xX8 xX9 xX10 xX11 xX12 xX13 qX iX ++ gM G uM (uC 0) iM sM ++ gC G uC iC tC sC)) (by simp only [List.append_assoc, List.append_nil, List.nil_append]) 0 rfl rfl rfl hl.1 (lv_room (Nat.le_of_ble_eq_true rfl)) ⟨Nat.le_of_ble_eq_true rfl, Nat.le_of_ble_eq_true rfl⟩ ⟨Nat.zero_le _, Nat.zero_le _⟩ dX10_person_5 (fun H locs hP hD hS => ?_)
  refine lv_if_eq (tgt := 21) X.hx X.hb dX10_person_8 (by decide) (fun hc => absurd hc (by decide)) (fun _ => ?_)
  refine lv_iload_n X.hx X.hb dX10_person_11 rfl (lv_at hl 2 rfl) ?_
  refine lv_if_lt (tgt := 21) X.hx X.hb dX10_person_12 (by decide) (fun hc => absurd hc (by decide)) (fun _ => ?_)
  refine lv_iload_n X.hx X.hb dX10_person_15 rfl (lv_at hl 2 rfl) ?_
  refine lv_bipush (v := 7) X.hx X.hb dX10_person_16 (by decide) ?_
  refine lv_icmp_le (tgt := 29) X.hx X.hb dX10_person_18 (by decide) (fun _ => ?_) (fun hc => absurd (by decide) hc)
  refine lv_iload_n X.hx X.hb dX10_person_29 rfl (lv_at hl 2 rfl) ?_
  refine lv_tableIn (off := 80) (tgt := 110) X.hx X.hb dX10_person_30 (by decide) (by decide) (by decide) (by decide) ?_
  refine lv_aload_n X.hx X.hb dX10_person_110 rfl (lv_at hl 0 rfl) ?_
  refine gf_X10_37 X hP 0 rfl (v := .ref (uM 0)) rfl dX10_person_111 ?_
  refine gf_X10_155 X hP 2 rfl (v := .int (iM 2)) rfl dX10_person_114 ?_
  refine lv_iload_n X.hx X.hb dX10_person_117 rfl (lv_at hl 1 rfl) ?_
  refine lv_iushr (v := (us (iM 2) p1)) X.hx X.hb dX10_person_118 rfl ?_
  refine lv_iconst (v := 1) X.hx X.hb dX10_person_119 (by decide) ?_
  refine lv_iand X.hx X.hb dX10_person_120 ?_
  cases hf
  exact r_iret X hP hD hS dX10_person_121
set_option maxHeartbeats 4000000 in
theorem c_X10_person_5 (l : Launch) (G : GT) (N : Nat) (uX uM uC : Nat → Nat) (xX0 xX2 xX4 xX7 xX8 xX9 xX10 xX11 xX12 xX13 : Nat) (qX : Nat → Option Nat) (iX : Nat → Int32) (iM : Nat → Int32) (sM : Nat → Nat → Int32) (iC : Nat → Int32) (tC : Nat → Nat → Int64) (sC : Nat → Nat → Int32) (p1 : Int32) {r : Int32} (hp : f_X1_isPerson N iC tC sC p1 = some 1) (hf : some ((us (iM 3) p1) &&& 1) = some r) : CI l G yX10_person cX10_person 3 .int 3 [.ref (uX 0), .int p1, .int 5] (gX G uX xX0 (uC 0) xX2 (uM 0) xX4 xX7 xX8 xX9 xX10 xX11 xX12 xX13 qX iX ++ gM G uM (uC 0) iM sM ++ gC G uC iC tC sC) r (gX G uX xX0 (uC 0) xX2 (uM 0) xX4 xX7 xX8 xX9 xX10 xX11 xX12 xX13 qX iX ++ gM G uM (uC 0) iM sM ++ gC G uC iC tC sC) := by
  refine CI.of (by decide) (Nat.le_of_ble_eq_true rfl) ?_
  intro p e s m args below meth c A X hA hP hD hS ls hl
  have hl : lv_has ls 3 [(0, .ref (uX 0)), (1, .int p1), (2, .int 5)] := hl
  refine lv_aload_n X.hx X.hb dX10_person_0 rfl (lv_at hl 0 rfl) ?_
  refine gf_X10_19 X hP 0 rfl (v := .ref (uC 0)) rfl dX10_person_1 ?_
  refine lv_iload_n X.hx X.hb dX10_person_4 rfl (lv_at hl 1 rfl) ?_
  refine r_bvi (gX G uX xX0 (uC 0) xX2 (uM 0) xX4 xX7 xX8 xX9 xX10 xX11 xX12 xX13 qX iX ++ gM G uM (uC 0) iM sM) ([] : va_W) (As := [.int p1]) (rest := []) X sm_X10_134 (c_X1_isPerson l G N uC iC tC sC p1 hp) hP hD hS hA (by simp only [List.append_assoc, List.append_nil, List.nil_append]) (wo := (gX G uX xX0 (uC 0) xX2 (uM 0) xX4 xX7 xX8 xX9 xX10 xX11 xX12 xX13 qX iX ++ gM G uM (uC 0) iM sM ++ gC G uC iC tC sC)) (by simp only [List.append_assoc, List.append_nil, List.nil_append]) 0 rfl rfl rfl hl.1 (lv_room (Nat.le_of_ble_eq_true rfl)) ⟨Nat.le_of_ble_eq_true rfl, Nat.le_of_ble_eq_true rfl⟩ ⟨Nat.zero_le _, Nat.zero_le _⟩ dX10_person_5 (fun H locs hP hD hS => ?_)
  refine lv_if_eq (tgt := 21) X.hx X.hb dX10_person_8 (by decide) (fun hc => absurd hc (by decide)) (fun _ => ?_)
  refine lv_iload_n X.hx X.hb dX10_person_11 rfl (lv_at hl 2 rfl) ?_
  refine lv_if_lt (tgt := 21) X.hx X.hb dX10_person_12 (by decide) (fun hc => absurd hc (by decide)) (fun _ => ?_)
  refine lv_iload_n X.hx X.hb dX10_person_15 rfl (lv_at hl 2 rfl) ?_
  refine lv_bipush (v := 7) X.hx X.hb dX10_person_16 (by decide) ?_
  refine lv_icmp_le (tgt := 29) X.hx X.hb dX10_person_18 (by decide) (fun _ => ?_) (fun hc => absurd (by decide) hc)
  refine lv_iload_n X.hx X.hb dX10_person_29 rfl (lv_at hl 2 rfl) ?_
  refine lv_tableIn (off := 92) (tgt := 122) X.hx X.hb dX10_person_30 (by decide) (by decide) (by decide) (by decide) ?_
  refine lv_aload_n X.hx X.hb dX10_person_122 rfl (lv_at hl 0 rfl) ?_
  refine gf_X10_37 X hP 0 rfl (v := .ref (uM 0)) rfl dX10_person_123 ?_
  refine gf_X10_158 X hP 2 rfl (v := .int (iM 3)) rfl dX10_person_126 ?_
  refine lv_iload_n X.hx X.hb dX10_person_129 rfl (lv_at hl 1 rfl) ?_
  refine lv_iushr (v := (us (iM 3) p1)) X.hx X.hb dX10_person_130 rfl ?_
  refine lv_iconst (v := 1) X.hx X.hb dX10_person_131 (by decide) ?_
  refine lv_iand X.hx X.hb dX10_person_132 ?_
  cases hf
  exact r_iret X hP hD hS dX10_person_133
set_option maxHeartbeats 4000000 in
theorem c_X10_person_6 (l : Launch) (G : GT) (N : Nat) (uX uM uC : Nat → Nat) (xX0 xX2 xX4 xX7 xX8 xX9 xX10 xX11 xX12 xX13 : Nat) (qX : Nat → Option Nat) (iX : Nat → Int32) (iM : Nat → Int32) (sM : Nat → Nat → Int32) (iC : Nat → Int32) (tC : Nat → Nat → Int64) (sC : Nat → Nat → Int32) (p1 : Int32) {r : Int32} (hp : f_X1_isPerson N iC tC sC p1 = some 1) (hf : ck p1 7 (some (sM 7 (ix p1))) = some r) : CI l G yX10_person cX10_person 3 .int 3 [.ref (uX 0), .int p1, .int 6] (gX G uX xX0 (uC 0) xX2 (uM 0) xX4 xX7 xX8 xX9 xX10 xX11 xX12 xX13 qX iX ++ gM G uM (uC 0) iM sM ++ gC G uC iC tC sC) r (gX G uX xX0 (uC 0) xX2 (uM 0) xX4 xX7 xX8 xX9 xX10 xX11 xX12 xX13 qX iX ++ gM G uM (uC 0) iM sM ++ gC G uC iC tC sC) := by
  refine CI.of (by decide) (Nat.le_of_ble_eq_true rfl) ?_
  intro p e s m args below meth c A X hA hP hD hS ls hl
  have hl : lv_has ls 3 [(0, .ref (uX 0)), (1, .int p1), (2, .int 6)] := hl
  refine lv_aload_n X.hx X.hb dX10_person_0 rfl (lv_at hl 0 rfl) ?_
  refine gf_X10_19 X hP 0 rfl (v := .ref (uC 0)) rfl dX10_person_1 ?_
  refine lv_iload_n X.hx X.hb dX10_person_4 rfl (lv_at hl 1 rfl) ?_
  refine r_bvi (gX G uX xX0 (uC 0) xX2 (uM 0) xX4 xX7 xX8 xX9 xX10 xX11 xX12 xX13 qX iX ++ gM G uM (uC 0) iM sM) ([] : va_W) (As := [.int p1]) (rest := []) X sm_X10_134 (c_X1_isPerson l G N uC iC tC sC p1 hp) hP hD hS hA (by simp only [List.append_assoc, List.append_nil, List.nil_append]) (wo := (gX G uX xX0 (uC 0) xX2 (uM 0) xX4 xX7 xX8 xX9 xX10 xX11 xX12 xX13 qX iX ++ gM G uM (uC 0) iM sM ++ gC G uC iC tC sC)) (by simp only [List.append_assoc, List.append_nil, List.nil_append]) 0 rfl rfl rfl hl.1 (lv_room (Nat.le_of_ble_eq_true rfl)) ⟨Nat.le_of_ble_eq_true rfl, Nat.le_of_ble_eq_true rfl⟩ ⟨Nat.zero_le _, Nat.zero_le _⟩ dX10_person_5 (fun H locs hP hD hS => ?_)
  refine lv_if_eq (tgt := 21) X.hx X.hb dX10_person_8 (by decide) (fun hc => absurd hc (by decide)) (fun _ => ?_)
  refine lv_iload_n X.hx X.hb dX10_person_11 rfl (lv_at hl 2 rfl) ?_
  refine lv_if_lt (tgt := 21) X.hx X.hb dX10_person_12 (by decide) (fun hc => absurd hc (by decide)) (fun _ => ?_)
  refine lv_iload_n X.hx X.hb dX10_person_15 rfl (lv_at hl 2 rfl) ?_
  refine lv_bipush (v := 7) X.hx X.hb dX10_person_16 (by decide) ?_
  refine lv_icmp_le (tgt := 29) X.hx X.hb dX10_person_18 (by decide) (fun _ => ?_) (fun hc => absurd (by decide) hc)
  refine lv_iload_n X.hx X.hb dX10_person_29 rfl (lv_at hl 2 rfl) ?_
  refine lv_tableIn (off := 104) (tgt := 134) X.hx X.hb dX10_person_30 (by decide) (by decide) (by decide) (by decide) ?_
  refine lv_aload_n X.hx X.hb dX10_person_134 rfl (lv_at hl 0 rfl) ?_
  refine gf_X10_37 X hP 0 rfl (v := .ref (uM 0)) rfl dX10_person_135 ?_
  refine gf_X10_161 X hP 2 rfl (v := .ref (uM 8)) rfl dX10_person_138 ?_
  refine lv_iload_n X.hx X.hb dX10_person_141 rfl (lv_at hl 1 rfl) ?_
  obtain ⟨hin, hf⟩ := ck_i hf
  refine r_iald X hP 4 rfl hin dX10_person_142 ?_
  cases hf
  exact r_iret X hP hD hS dX10_person_143
set_option maxHeartbeats 4000000 in
theorem c_X10_person_7 (l : Launch) (G : GT) (N : Nat) (uX uM uC : Nat → Nat) (xX0 xX2 xX4 xX7 xX8 xX9 xX10 xX11 xX12 xX13 : Nat) (qX : Nat → Option Nat) (iX : Nat → Int32) (iM : Nat → Int32) (sM : Nat → Nat → Int32) (iC : Nat → Int32) (tC : Nat → Nat → Int64) (sC : Nat → Nat → Int32) (p1 : Int32) {r : Int32} (hp : f_X1_isPerson N iC tC sC p1 = some 1) (hf : f_X4_wanting N iM sM iC tC sC p1 = some r) : CI l G yX10_person cX10_person 3 .int 3 [.ref (uX 0), .int p1, .int 7] (gX G uX xX0 (uC 0) xX2 (uM 0) xX4 xX7 xX8 xX9 xX10 xX11 xX12 xX13 qX iX ++ gM G uM (uC 0) iM sM ++ gC G uC iC tC sC) r (gX G uX xX0 (uC 0) xX2 (uM 0) xX4 xX7 xX8 xX9 xX10 xX11 xX12 xX13 qX iX ++ gM G uM (uC 0) iM sM ++ gC G uC iC tC sC) := by
  refine CI.of (by decide) (Nat.le_of_ble_eq_true rfl) ?_
  intro p e s m args below meth c A X hA hP hD hS ls hl
  have hl : lv_has ls 3 [(0, .ref (uX 0)), (1, .int p1), (2, .int 7)] := hl
  refine lv_aload_n X.hx X.hb dX10_person_0 rfl (lv_at hl 0 rfl) ?_
  refine gf_X10_19 X hP 0 rfl (v := .ref (uC 0)) rfl dX10_person_1 ?_
  refine lv_iload_n X.hx X.hb dX10_person_4 rfl (lv_at hl 1 rfl) ?_
  refine r_bvi (gX G uX xX0 (uC 0) xX2 (uM 0) xX4 xX7 xX8 xX9 xX10 xX11 xX12 xX13 qX iX ++ gM G uM (uC 0) iM sM) ([] : va_W) (As := [.int p1]) (rest := []) X sm_X10_134 (c_X1_isPerson l G N uC iC tC sC p1 hp) hP hD hS hA (by simp only [List.append_assoc, List.append_nil, List.nil_append]) (wo := (gX G uX xX0 (uC 0) xX2 (uM 0) xX4 xX7 xX8 xX9 xX10 xX11 xX12 xX13 qX iX ++ gM G uM (uC 0) iM sM ++ gC G uC iC tC sC)) (by simp only [List.append_assoc, List.append_nil, List.nil_append]) 0 rfl rfl rfl hl.1 (lv_room (Nat.le_of_ble_eq_true rfl)) ⟨Nat.le_of_ble_eq_true rfl, Nat.le_of_ble_eq_true rfl⟩ ⟨Nat.zero_le _, Nat.zero_le _⟩ dX10_person_5 (fun H locs hP hD hS => ?_)
  refine lv_if_eq (tgt := 21) X.hx X.hb dX10_person_8 (by decide) (fun hc => absurd hc (by decide)) (fun _ => ?_)
  refine lv_iload_n X.hx X.hb dX10_person_11 rfl (lv_at hl 2 rfl) ?_
  refine lv_if_lt (tgt := 21) X.hx X.hb dX10_person_12 (by decide) (fun hc => absurd hc (by decide)) (fun _ => ?_)
  refine lv_iload_n X.hx X.hb dX10_person_15 rfl (lv_at hl 2 rfl) ?_
  refine lv_bipush (v := 7) X.hx X.hb dX10_person_16 (by decide) ?_
  refine lv_icmp_le (tgt := 29) X.hx X.hb dX10_person_18 (by decide) (fun _ => ?_) (fun hc => absurd (by decide) hc)
  refine lv_iload_n X.hx X.hb dX10_person_29 rfl (lv_at hl 2 rfl) ?_
  refine lv_tableOut (tgt := 144) X.hx X.hb dX10_person_30 (Or.inr (by decide)) (by decide) ?_
  refine lv_aload_n X.hx X.hb dX10_person_144 rfl (lv_at hl 0 rfl) ?_
  refine gf_X10_37 X hP 0 rfl (v := .ref (uM 0)) rfl dX10_person_145 ?_
  refine lv_iload_n X.hx X.hb dX10_person_148 rfl (lv_at hl 1 rfl) ?_
  refine r_bvi (gX G uX xX0 (uC 0) xX2 (uM 0) xX4 xX7 xX8 xX9 xX10 xX11 xX12 xX13 qX iX) ([] : va_W) (As := [.int p1]) (rest := []) X sm_X10_164 (c_X4_wanting l G N uM uC iM sM iC tC sC p1 hf) hP hD hS hA (by simp only [List.append_assoc, List.append_nil, List.nil_append]) (wo := (gX G uX xX0 (uC 0) xX2 (uM 0) xX4 xX7 xX8 xX9 xX10 xX11 xX12 xX13 qX iX ++ gM G uM (uC 0) iM sM ++ gC G uC iC tC sC)) (by simp only [List.append_assoc, List.append_nil, List.nil_append]) 0 rfl rfl rfl hl.1 (lv_room (Nat.le_of_ble_eq_true rfl)) ⟨Nat.le_of_ble_eq_true rfl, Nat.le_of_ble_eq_true rfl⟩ ⟨Nat.zero_le _, Nat.zero_le _⟩ dX10_person_149 (fun H locs hP hD hS => ?_)
  exact r_iret X hP hD hS dX10_person_152
def f_X10_pv (N : Nat) (iM : Nat → Int32) (sM : Nat → Nat → Int32) (iC : Nat → Int32) (tC : Nat → Nat → Int64) (sC : Nat → Nat → Int32) (p1 : Int32) : Nat → Option Int32
  | 0 => ck p1 7 (some (sM 6 (ix p1)))
  | 1 => f_X4_known N iM sM iC tC sC p1
  | 2 => ck p1 7 (some (sC 5 (ix p1)))
  | 3 => f_X4_dealable N iM sM iC tC sC p1
  | 4 => some ((us (iM 2) p1) &&& 1)
  | 5 => some ((us (iM 3) p1) &&& 1)
  | 6 => ck p1 7 (some (sM 7 (ix p1)))
  | _ => f_X4_wanting N iM sM iC tC sC p1
theorem c_X10_personR (l : Launch) (G : GT) (N : Nat) (uX uM uC : Nat → Nat) (xX0 xX2 xX4 xX7 xX8 xX9 xX10 xX11 xX12 xX13 : Nat) (qX : Nat → Option Nat) (iX : Nat → Int32) (iM : Nat → Int32) (sM : Nat → Nat → Int32) (iC : Nat → Int32) (tC : Nat → Nat → Int64) (sC : Nat → Nat → Int32) (p1 : Int32) {r : Int32} (hp : f_X1_isPerson N iC tC sC p1 = some 1) (k : Nat) (hk : k < 8) (hf : f_X10_pv N iM sM iC tC sC p1 k = some r) : CI l G yX10_person cX10_person 3 .int 3 [.ref (uX 0), .int p1, .int (nI k)] (gX G uX xX0 (uC 0) xX2 (uM 0) xX4 xX7 xX8 xX9 xX10 xX11 xX12 xX13 qX iX ++ gM G uM (uC 0) iM sM ++ gC G uC iC tC sC) r (gX G uX xX0 (uC 0) xX2 (uM 0) xX4 xX7 xX8 xX9 xX10 xX11 xX12 xX13 qX iX ++ gM G uM (uC 0) iM sM ++ gC G uC iC tC sC) :=
  match k, hk, hf with
  | 0, _, hf => c_X10_person_0 l G N uX uM uC xX0 xX2 xX4 xX7 xX8 xX9 xX10 xX11 xX12 xX13 qX iX iM sM iC tC sC p1 hp hf
  | 1, _, hf => c_X10_person_1 l G N uX uM uC xX0 xX2 xX4 xX7 xX8 xX9 xX10 xX11 xX12 xX13 qX iX iM sM iC tC sC p1 hp hf
  | 2, _, hf => c_X10_person_2 l G N uX uM uC xX0 xX2 xX4 xX7 xX8 xX9 xX10 xX11 xX12 xX13 qX iX iM sM iC tC sC p1 hp hf
  | 3, _, hf => c_X10_person_3 l G N uX uM uC xX0 xX2 xX4 xX7 xX8 xX9 xX10 xX11 xX12 xX13 qX iX iM sM iC tC sC p1 hp hf
  | 4, _, hf => c_X10_person_4 l G N uX uM uC xX0 xX2 xX4 xX7 xX8 xX9 xX10 xX11 xX12 xX13 qX iX iM sM iC tC sC p1 hp hf
  | 5, _, hf => c_X10_person_5 l G N uX uM uC xX0 xX2 xX4 xX7 xX8 xX9 xX10 xX11 xX12 xX13 qX iX iM sM iC tC sC p1 hp hf
  | 6, _, hf => c_X10_person_6 l G N uX uM uC xX0 xX2 xX4 xX7 xX8 xX9 xX10 xX11 xX12 xX13 qX iX iM sM iC tC sC p1 hp hf
  | 7, _, hf => c_X10_person_7 l G N uX uM uC xX0 xX2 xX4 xX7 xX8 xX9 xX10 xX11 xX12 xX13 qX iX iM sM iC tC sC p1 hp hf
  | _ + 8, h, _ => absurd h (by omega)
