def f_X10_buy (N : Nat) (iX : Nat → Int32) (iM : Nat → Int32) (sM : Nat → Nat → Int32) (aU : Nat → Nat → Nat) (iU : Nat → Nat → Int32) (sU : Nat → Nat → Nat → Int32) (iC : Nat → Int32) (tC : Nat → Nat → Int64) (sC : Nat → Nat → Int32) (p1 : Int32) (p2 : Int32) (p3 : Int32) : Option (Int32 × (Nat → Int32) × (Nat → Int32) × (Nat → Nat → Int32) × (Nat → Nat → Nat) × (Nat → Nat → Int32) × (Nat → Nat → Nat → Int32)) :=
  bd (f_X1_isPerson N iC tC sC p1) (fun r_1 => (if r_1 = 0 then some ((-1), iX, iM, sM, aU, iU, sU) else bd (f_X1_isGood N iC tC sC p2) (fun r_4 => (if r_4 = 0 then some ((-1), iX, iM, sM, aU, iU, sU) else bd (f_X1_isPerson N iC tC sC p3) (fun r_7 => (if r_7 = 0 then some ((-1), iX, iM, sM, aU, iU, sU) else bd (f_X4_whyNotBuy N iM sM iC tC sC p1 p2 p3) (fun r_10 => (if r_10 = 0 then bd (f_X10_keepU N iX iM sM aU iU sU) (fun (iX_13, aU_14, iU_15, sU_16) => bd (f_X4_doBuy N iM sM iC tC sC p1 p2 p3) (fun (iM_18, sM_19) => some (r_10, iX_13, iM_18, sM_19, aU_14, iU_15, sU_16))) else some (r_10, iX, iM, sM, aU, iU, sU)))))))))
set_option maxHeartbeats 4000000 in
set_option maxRecDepth 100000 in
theorem c_X10_buy (l : Launch) (G : GT) (N : Nat) (uX uM uC : Nat → Nat) (xX0 xX2 xX4 xX7 xX8 xX9 xX10 xX11 xX12 xX13 : Nat) (iX : Nat → Int32) (iM : Nat → Int32) (sM : Nat → Nat → Int32) (aU : Nat → Nat → Nat) (iU : Nat → Nat → Int32) (sU : Nat → Nat → Nat → Int32) (iC : Nat → Int32) (tC : Nat → Nat → Int64) (sC : Nat → Nat → Int32) (p1 : Int32) (p2 : Int32) (p3 : Int32) {r : Int32} {iX' : Nat → Int32} {iM' : Nat → Int32} {sM' : Nat → Nat → Int32} {aU' : Nat → Nat → Nat} {iU' : Nat → Nat → Int32} {sU' : Nat → Nat → Nat → Int32} (hf : f_X10_buy N iX iM sM aU iU sU iC tC sC p1 p2 p3 = some (r, iX', iM', sM', aU', iU', sU')) : CI l G yX10_buy cX10_buy 5 .int 4 [.ref (uX 0), .int p1, .int p2, .int p3] (gX G uX xX0 (uC 0) xX2 (uM 0) xX4 xX7 xX8 xX9 xX10 xX11 xX12 xX13 (kq aU) iX ++ gM G uM (uC 0) iM sM ++ gU G aU (uC 0) iU sU ++ gC G uC iC tC sC) r (gX G uX xX0 (uC 0) xX2 (uM 0) xX4 xX7 xX8 xX9 xX10 xX11 xX12 xX13 (kq aU') iX' ++ gM G uM (uC 0) iM' sM' ++ gU G aU' (uC 0) iU' sU' ++ gC G uC iC tC sC) := by
  refine CI.of (by decide) (Nat.le_of_ble_eq_true rfl) ?_
  intro p e s m args below meth c A X hA hP hD hS ls hl
  have hl : lv_has ls 5 [(0, .ref (uX 0)), (1, .int p1), (2, .int p2), (3, .int p3)] := hl
  generalize hQ : MQ below (QI G A r (gX G uX xX0 (uC 0) xX2 (uM 0) xX4 xX7 xX8 xX9 xX10 xX11 xX12 xX13 (kq aU') iX' ++ gM G uM (uC 0) iM' sM' ++ gU G aU' (uC 0) iU' sU' ++ gC G uC iC tC sC)) args s 0 0 A = QQ
  unfold f_X10_buy at hf
  refine lv_aload_n X.hx X.hb dX10_buy_0 rfl (lv_at hl 0 rfl) ?_
  refine gf_X10_19 X hP 0 (get_blk (L := ([] : va_W)) (g := (gX G uX xX0 (uC 0) xX2 (uM 0) xX4 xX7 xX8 xX9 xX10 xX11 xX12 xX13 (kq aU) iX)) (R := (gM G uM (uC 0) iM sM ++ gU G aU (uC 0) iU sU ++ gC G uC iC tC sC)) (k := 0) (by simp only [List.append_assoc, List.append_nil, List.nil_append]) rfl rfl) (v := .ref (uC 0)) rfl dX10_buy_1 ?_
  refine lv_iload_n X.hx X.hb dX10_buy_4 rfl (lv_at hl 1 rfl) ?_
  obtain ⟨r_1, hc_2, hf⟩ := bd_i hf
  refine r_bvi (gX G uX xX0 (uC 0) xX2 (uM 0) xX4 xX7 xX8 xX9 xX10 xX11 xX12 xX13 (kq aU) iX ++ gM G uM (uC 0) iM sM ++ gU G aU (uC 0) iU sU) ([] : va_W) (As := [.int p1]) (rest := []) X sm_X10_134 (c_X1_isPerson l G N uC iC tC sC p1 hc_2) hP hD hS hA (by simp only [List.append_assoc, List.append_nil, List.nil_append]) (wo := (gX G uX xX0 (uC 0) xX2 (uM 0) xX4 xX7 xX8 xX9 xX10 xX11 xX12 xX13 (kq aU) iX ++ gM G uM (uC 0) iM sM ++ gU G aU (uC 0) iU sU ++ gC G uC iC tC sC)) (by simp only [List.append_assoc, List.append_nil, List.nil_append]) 0 rfl rfl rfl hl.1 (lv_room (Nat.le_of_ble_eq_true rfl)) ⟨Nat.le_of_ble_eq_true rfl, Nat.le_of_ble_eq_true rfl⟩ ⟨Nat.zero_le _, Nat.zero_le _⟩ dX10_buy_5 (fun H locs hP hD hS => ?_)
  refine lv_if_eq (tgt := 33) X.hx X.hb dX10_buy_8 (by decide) (fun hc_3 => ?_) (fun hc_3 => ?_)
  · replace hf := if_t hf hc_3
    refine lv_iconst (v := (-1)) X.hx X.hb dX10_buy_33 (by decide) ?_
    cases hf
    subst hQ
    exact r_iret X hP hD hS dX10_buy_34
  · replace hf := if_f hf hc_3
    refine lv_aload_n X.hx X.hb dX10_buy_11 rfl (lv_at hl 0 rfl) ?_
    refine gf_X10_19 X hP 0 (get_blk (L := ([] : va_W)) (g := (gX G uX xX0 (uC 0) xX2 (uM 0) xX4 xX7 xX8 xX9 xX10 xX11 xX12 xX13 (kq aU) iX)) (R := (gM G uM (uC 0) iM sM ++ gU G aU (uC 0) iU sU ++ gC G uC iC tC sC)) (k := 0) (by simp only [List.append_assoc, List.append_nil, List.nil_append]) rfl rfl) (v := .ref (uC 0)) rfl dX10_buy_12 ?_
    refine lv_iload_n X.hx X.hb dX10_buy_15 rfl (lv_at hl 2 rfl) ?_
    obtain ⟨r_4, hc_5, hf⟩ := bd_i hf
    refine r_bvi (gX G uX xX0 (uC 0) xX2 (uM 0) xX4 xX7 xX8 xX9 xX10 xX11 xX12 xX13 (kq aU) iX ++ gM G uM (uC 0) iM sM ++ gU G aU (uC 0) iU sU) ([] : va_W) (As := [.int p2]) (rest := []) X sm_X10_167 (c_X1_isGood l G N uC iC tC sC p2 hc_5) hP hD hS hA (by simp only [List.append_assoc, List.append_nil, List.nil_append]) (wo := (gX G uX xX0 (uC 0) xX2 (uM 0) xX4 xX7 xX8 xX9 xX10 xX11 xX12 xX13 (kq aU) iX ++ gM G uM (uC 0) iM sM ++ gU G aU (uC 0) iU sU ++ gC G uC iC tC sC)) (by simp only [List.append_assoc, List.append_nil, List.nil_append]) 0 rfl rfl rfl hl.1 (lv_room (Nat.le_of_ble_eq_true rfl)) ⟨Nat.le_of_ble_eq_true rfl, Nat.le_of_ble_eq_true rfl⟩ ⟨Nat.zero_le _, Nat.zero_le _⟩ dX10_buy_16 (fun H locs hP hD hS => ?_)
    refine lv_if_eq (tgt := 33) X.hx X.hb dX10_buy_19 (by decide) (fun hc_6 => ?_) (fun hc_6 => ?_)
    · replace hf := if_t hf hc_6
      refine lv_iconst (v := (-1)) X.hx X.hb dX10_buy_33 (by decide) ?_
      cases hf
      subst hQ
      exact r_iret X hP hD hS dX10_buy_34
    · replace hf := if_f hf hc_6
      refine lv_aload_n X.hx X.hb dX10_buy_22 rfl (lv_at hl 0 rfl) ?_
      refine gf_X10_19 X hP 0 (get_blk (L := ([] : va_W)) (g := (gX G uX xX0 (uC 0) xX2 (uM 0) xX4 xX7 xX8 xX9 xX10 xX11 xX12 xX13 (kq aU) iX)) (R := (gM G uM (uC 0) iM sM ++ gU G aU (uC 0) iU sU ++ gC G uC iC tC sC)) (k := 0) (by simp only [List.append_assoc, List.append_nil, List.nil_append]) rfl rfl) (v := .ref (uC 0)) rfl dX10_buy_23 ?_
      refine lv_iload_n X.hx X.hb dX10_buy_26 rfl (lv_at hl 3 rfl) ?_
      obtain ⟨r_7, hc_8, hf⟩ := bd_i hf
      refine r_bvi (gX G uX xX0 (uC 0) xX2 (uM 0) xX4 xX7 xX8 xX9 xX10 xX11 xX12 xX13 (kq aU) iX ++ gM G uM (uC 0) iM sM ++ gU G aU (uC 0) iU sU) ([] : va_W) (As := [.int p3]) (rest := []) X sm_X10_134 (c_X1_isPerson l G N uC iC tC sC p3 hc_8) hP hD hS hA (by simp only [List.append_assoc, List.append_nil, List.nil_append]) (wo := (gX G uX xX0 (uC 0) xX2 (uM 0) xX4 xX7 xX8 xX9 xX10 xX11 xX12 xX13 (kq aU) iX ++ gM G uM (uC 0) iM sM ++ gU G aU (uC 0) iU sU ++ gC G uC iC tC sC)) (by simp only [List.append_assoc, List.append_nil, List.nil_append]) 0 rfl rfl rfl hl.1 (lv_room (Nat.le_of_ble_eq_true rfl)) ⟨Nat.le_of_ble_eq_true rfl, Nat.le_of_ble_eq_true rfl⟩ ⟨Nat.zero_le _, Nat.zero_le _⟩ dX10_buy_27 (fun H locs hP hD hS => ?_)
      refine lv_if_ne (tgt := 35) X.hx X.hb dX10_buy_30 (by decide) (fun hc_9 => ?_) (fun hc_9 => ?_)
      · replace hf := if_f hf hc_9
        refine lv_aload_n X.hx X.hb dX10_buy_35 rfl (lv_at hl 0 rfl) ?_
        refine gf_X10_37 X hP 0 (get_blk (L := ([] : va_W)) (g := (gX G uX xX0 (uC 0) xX2 (uM 0) xX4 xX7 xX8 xX9 xX10 xX11 xX12 xX13 (kq aU) iX)) (R := (gM G uM (uC 0) iM sM ++ gU G aU (uC 0) iU sU ++ gC G uC iC tC sC)) (k := 0) (by simp only [List.append_assoc, List.append_nil, List.nil_append]) rfl rfl) (v := .ref (uM 0)) rfl dX10_buy_36 ?_
        refine lv_iload_n X.hx X.hb dX10_buy_39 rfl (lv_at hl 1 rfl) ?_
        refine lv_iload_n X.hx X.hb dX10_buy_40 rfl (lv_at hl 2 rfl) ?_
        refine lv_iload_n X.hx X.hb dX10_buy_41 rfl (lv_at hl 3 rfl) ?_
        obtain ⟨r_10, hc_11, hf⟩ := bd_i hf
        refine r_pvi [gX G uX xX0 (uC 0) xX2 (uM 0) xX4 xX7 xX8 xX9 xX10 xX11 xX12 xX13 (kq aU) iX, gM G uM (uC 0) iM sM, gU G aU (uC 0) iU sU, gC G uC iC tC sC] [gX G uX xX0 (uC 0) xX2 (uM 0) xX4 xX7 xX8 xX9 xX10 xX11 xX12 xX13 (kq aU) iX, gM G uM (uC 0) iM sM, gU G aU (uC 0) iU sU, gC G uC iC tC sC] [gM G uM (uC 0) iM sM, gC G uC iC tC sC] [gM G uM (uC 0) iM sM, gC G uC iC tC sC] [gX G uX xX0 (uC 0) xX2 (uM 0) xX4 xX7 xX8 xX9 xX10 xX11 xX12 xX13 (kq aU) iX, gU G aU (uC 0) iU sU] 4 [1, 3] [0, 2] (As := [.int p1, .int p2, .int p3]) (rest := []) X sm_X10_211 (c_X4_whyNotBuy l G N uM uC iM sM iC tC sC p1 p2 p3 hc_11) hP hD hS hA rfl rfl (by decide) (by simp only [List.flatten_cons, List.flatten_nil, List.append_assoc, List.append_nil]) rfl (by simp only [List.flatten_cons, List.flatten_nil, List.append_assoc, List.append_nil]) rfl (by simp only [List.flatten_cons, List.flatten_nil, List.append_assoc, List.append_nil]) rfl rfl (wo := (gX G uX xX0 (uC 0) xX2 (uM 0) xX4 xX7 xX8 xX9 xX10 xX11 xX12 xX13 (kq aU) iX ++ gM G uM (uC 0) iM sM ++ gU G aU (uC 0) iU sU ++ gC G uC iC tC sC)) (by simp only [List.flatten_cons, List.flatten_nil, List.append_assoc, List.append_nil]) 0 rfl rfl rfl hl.1 (lv_room (Nat.le_of_ble_eq_true rfl)) ⟨Nat.le_of_ble_eq_true rfl, Nat.le_of_ble_eq_true rfl⟩ ⟨Nat.zero_le _, Nat.zero_le _⟩ dX10_buy_42 (fun H locs hP hD hS => ?_)
        refine lv_istore (lv' := [(4, .int r_10), (0, .ref (uX 0)), (1, .int p1), (2, .int p2), (3, .int p3)]) X.hx X.hb dX10_buy_45 hl (by decide) rfl (fun ls hl => ?_)
        refine lv_iload X.hx X.hb dX10_buy_47 (lv_at hl 0 rfl) ?_
        refine lv_if_ne (tgt := 66) X.hx X.hb dX10_buy_49 (by decide) (fun hc_12 => ?_) (fun hc_12 => ?_)
        · replace hf := if_f hf hc_12
          refine lv_iload X.hx X.hb dX10_buy_66 (lv_at hl 0 rfl) ?_
          cases hf
          subst hQ
          exact r_iret X hP hD hS dX10_buy_68
        · replace hf := if_t hf hc_12
          refine lv_aload_n X.hx X.hb dX10_buy_52 rfl (lv_at hl 1 rfl) ?_
          obtain ⟨⟨iX_13, aU_14, iU_15, sU_16⟩, hc_17, hf⟩ := bd_i hf
          refine r_bvv ([] : va_W) (gC G uC iC tC sC) (As := []) (rest := []) X sm_X10_215 (c_X10_keepU l G N uX uM xX0 (uC 0) xX2 xX4 xX7 xX8 xX9 xX10 xX11 xX12 xX13 (uC 0) iX iM sM aU iU sU hc_17) hP hD hS hA (by simp only [List.append_assoc, List.append_nil, List.nil_append]) (wo := (gX G uX xX0 (uC 0) xX2 (uM 0) xX4 xX7 xX8 xX9 xX10 xX11 xX12 xX13 (kq aU_14) iX_13 ++ gM G uM (uC 0) iM sM ++ gU G aU_14 (uC 0) iU_15 sU_16 ++ gC G uC iC tC sC)) (by simp only [List.append_assoc, List.append_nil, List.nil_append]) 0 rfl rfl rfl hl.1 (lv_room (Nat.le_of_ble_eq_true rfl)) ⟨Nat.le_of_ble_eq_true rfl, Nat.le_of_ble_eq_true rfl⟩ ⟨Nat.zero_le _, Nat.zero_le _⟩ dX10_buy_53 (fun H locs hP hD hS => ?_)
          refine lv_aload_n X.hx X.hb dX10_buy_56 rfl (lv_at hl 1 rfl) ?_
          refine gf_X10_37 X hP 0 (get_blk (L := ([] : va_W)) (g := (gX G uX xX0 (uC 0) xX2 (uM 0) xX4 xX7 xX8 xX9 xX10 xX11 xX12 xX13 (kq aU_14) iX_13)) (R := (gM G uM (uC 0) iM sM ++ gU G aU_14 (uC 0) iU_15 sU_16 ++ gC G uC iC tC sC)) (k := 0) (by simp only [List.append_assoc, List.append_nil, List.nil_append]) rfl rfl) (v := .ref (uM 0)) rfl dX10_buy_57 ?_
          refine lv_iload_n X.hx X.hb dX10_buy_60 rfl (lv_at hl 2 rfl) ?_
          refine lv_iload_n X.hx X.hb dX10_buy_61 rfl (lv_at hl 3 rfl) ?_
          refine lv_iload_n X.hx X.hb dX10_buy_62 rfl (lv_at hl 4 rfl) ?_
          obtain ⟨⟨iM_18, sM_19⟩, hc_20, hf⟩ := bd_i hf
          refine r_pvv [gX G uX xX0 (uC 0) xX2 (uM 0) xX4 xX7 xX8 xX9 xX10 xX11 xX12 xX13 (kq aU_14) iX_13, gM G uM (uC 0) iM sM, gU G aU_14 (uC 0) iU_15 sU_16, gC G uC iC tC sC] [gX G uX xX0 (uC 0) xX2 (uM 0) xX4 xX7 xX8 xX9 xX10 xX11 xX12 xX13 (kq aU_14) iX_13, gM G uM (uC 0) iM_18 sM_19, gU G aU_14 (uC 0) iU_15 sU_16, gC G uC iC tC sC] [gM G uM (uC 0) iM sM, gC G uC iC tC sC] [gM G uM (uC 0) iM_18 sM_19, gC G uC iC tC sC] [gX G uX xX0 (uC 0) xX2 (uM 0) xX4 xX7 xX8 xX9 xX10 xX11 xX12 xX13 (kq aU_14) iX_13, gU G aU_14 (uC 0) iU_15 sU_16] 4 [1, 3] [0, 2] (As := [.int p1, .int p2, .int p3]) (rest := []) X sm_X10_218 (c_X4_doBuy l G N uM uC iM sM iC tC sC p1 p2 p3 hc_20) hP hD hS hA rfl rfl (by decide) (by simp only [List.flatten_cons, List.flatten_nil, List.append_assoc, List.append_nil]) rfl (by simp only [List.flatten_cons, List.flatten_nil, List.append_assoc, List.append_nil]) rfl (by simp only [List.flatten_cons, List.flatten_nil, List.append_assoc, List.append_nil]) rfl rfl (wo := (gX G uX xX0 (uC 0) xX2 (uM 0) xX4 xX7 xX8 xX9 xX10 xX11 xX12 xX13 (kq aU_14) iX_13 ++ gM G uM (uC 0) iM_18 sM_19 ++ gU G aU_14 (uC 0) iU_15 sU_16 ++ gC G uC iC tC sC)) (by simp only [List.flatten_cons, List.flatten_nil, List.append_assoc, List.append_nil]) 0 rfl rfl rfl hl.1 (lv_room (Nat.le_of_ble_eq_true rfl)) ⟨Nat.le_of_ble_eq_true rfl, Nat.le_of_ble_eq_true rfl⟩ ⟨Nat.zero_le _, Nat.zero_le _⟩ dX10_buy_63 (fun H locs hP hD hS => ?_)
          refine lv_iload X.hx X.hb dX10_buy_66 (lv_at hl 0 rfl) ?_
          cases hf
          subst hQ
          exact r_iret X hP hD hS dX10_buy_68
      · replace hf := if_t hf hc_9
        refine lv_iconst (v := (-1)) X.hx X.hb dX10_buy_33 (by decide) ?_
        cases hf
        subst hQ
        exact r_iret X hP hD hS dX10_buy_34

def f_X10_nod (N : Nat) (iX : Nat → Int32) (iM : Nat → Int32) (sM : Nat → Nat → Int32) (aU : Nat → Nat → Nat) (iU : Nat → Nat → Int32) (sU : Nat → Nat → Nat → Int32) (iC : Nat → Int32) (tC : Nat → Nat → Int64) (sC : Nat → Nat → Int32) (p1 : Int32) (p2 : Int32) : Option (Int32 × (Nat → Int32) × (Nat → Int32) × (Nat → Nat → Int32) × (Nat → Nat → Nat) × (Nat → Nat → Int32) × (Nat → Nat → Nat → Int32)) :=
  bd (f_X1_isPerson N iC tC sC p1) (fun r_1 => (if r_1 = 0 then some ((-1), iX, iM, sM, aU, iU, sU) else bd (f_X1_isPerson N iC tC sC p2) (fun r_4 => (if r_4 = 0 then some ((-1), iX, iM, sM, aU, iU, sU) else bd (f_X4_whyNotNod N iM sM iC tC sC p1 p2) (fun r_7 => (if r_7 = 0 then bd (f_X10_keepU N iX iM sM aU iU sU) (fun (iX_10, aU_11, iU_12, sU_13) => bd (f_X4_doNod N iM sM iC tC sC p1 p2) (fun (iM_15, sM_16) => some (r_7, iX_10, iM_15, sM_16, aU_11, iU_12, sU_13))) else some (r_7, iX, iM, sM, aU, iU, sU)))))))
set_option maxHeartbeats 4000000 in
set_option maxRecDepth 100000 in
theorem c_X10_nod (l : Launch) (G : GT) (N : Nat) (uX uM uC : Nat → Nat) (xX0 xX2 xX4 xX7 xX8 xX9 xX10 xX11 xX12 xX13 : Nat) (iX : Nat → Int32) (iM : Nat → Int32) (sM : Nat → Nat → Int32) (aU : Nat → Nat → Nat) (iU : Nat → Nat → Int32) (sU : Nat → Nat → Nat → Int32) (iC : Nat → Int32) (tC : Nat → Nat → Int64) (sC : Nat → Nat → Int32) (p1 : Int32) (p2 : Int32) {r : Int32} {iX' : Nat → Int32} {iM' : Nat → Int32} {sM' : Nat → Nat → Int32} {aU' : Nat → Nat → Nat} {iU' : Nat → Nat → Int32} {sU' : Nat → Nat → Nat → Int32} (hf : f_X10_nod N iX iM sM aU iU sU iC tC sC p1 p2 = some (r, iX', iM', sM', aU', iU', sU')) : CI l G yX10_nod cX10_nod 4 .int 4 [.ref (uX 0), .int p1, .int p2] (gX G uX xX0 (uC 0) xX2 (uM 0) xX4 xX7 xX8 xX9 xX10 xX11 xX12 xX13 (kq aU) iX ++ gM G uM (uC 0) iM sM ++ gU G aU (uC 0) iU sU ++ gC G uC iC tC sC) r (gX G uX xX0 (uC 0) xX2 (uM 0) xX4 xX7 xX8 xX9 xX10 xX11 xX12 xX13 (kq aU') iX' ++ gM G uM (uC 0) iM' sM' ++ gU G aU' (uC 0) iU' sU' ++ gC G uC iC tC sC) := by
  refine CI.of (by decide) (Nat.le_of_ble_eq_true rfl) ?_
  intro p e s m args below meth c A X hA hP hD hS ls hl
  have hl : lv_has ls 4 [(0, .ref (uX 0)), (1, .int p1), (2, .int p2)] := hl
  generalize hQ : MQ below (QI G A r (gX G uX xX0 (uC 0) xX2 (uM 0) xX4 xX7 xX8 xX9 xX10 xX11 xX12 xX13 (kq aU') iX' ++ gM G uM (uC 0) iM' sM' ++ gU G aU' (uC 0) iU' sU' ++ gC G uC iC tC sC)) args s 0 0 A = QQ
  unfold f_X10_nod at hf
  refine lv_aload_n X.hx X.hb dX10_nod_0 rfl (lv_at hl 0 rfl) ?_
  refine gf_X10_19 X hP 0 (get_blk (L := ([] : va_W)) (g := (gX G uX xX0 (uC 0) xX2 (uM 0) xX4 xX7 xX8 xX9 xX10 xX11 xX12 xX13 (kq aU) iX)) (R := (gM G uM (uC 0) iM sM ++ gU G aU (uC 0) iU sU ++ gC G uC iC tC sC)) (k := 0) (by simp only [List.append_assoc, List.append_nil, List.nil_append]) rfl rfl) (v := .ref (uC 0)) rfl dX10_nod_1 ?_
  refine lv_iload_n X.hx X.hb dX10_nod_4 rfl (lv_at hl 1 rfl) ?_
  obtain ⟨r_1, hc_2, hf⟩ := bd_i hf
  refine r_bvi (gX G uX xX0 (uC 0) xX2 (uM 0) xX4 xX7 xX8 xX9 xX10 xX11 xX12 xX13 (kq aU) iX ++ gM G uM (uC 0) iM sM ++ gU G aU (uC 0) iU sU) ([] : va_W) (As := [.int p1]) (rest := []) X sm_X10_134 (c_X1_isPerson l G N uC iC tC sC p1 hc_2) hP hD hS hA (by simp only [List.append_assoc, List.append_nil, List.nil_append]) (wo := (gX G uX xX0 (uC 0) xX2 (uM 0) xX4 xX7 xX8 xX9 xX10 xX11 xX12 xX13 (kq aU) iX ++ gM G uM (uC 0) iM sM ++ gU G aU (uC 0) iU sU ++ gC G uC iC tC sC)) (by simp only [List.append_assoc, List.append_nil, List.nil_append]) 0 rfl rfl rfl hl.1 (lv_room (Nat.le_of_ble_eq_true rfl)) ⟨Nat.le_of_ble_eq_true rfl, Nat.le_of_ble_eq_true rfl⟩ ⟨Nat.zero_le _, Nat.zero_le _⟩ dX10_nod_5 (fun H locs hP hD hS => ?_)
  refine lv_if_eq (tgt := 22) X.hx X.hb dX10_nod_8 (by decide) (fun hc_3 => ?_) (fun hc_3 => ?_)
  · replace hf := if_t hf hc_3
    refine lv_iconst (v := (-1)) X.hx X.hb dX10_nod_22 (by decide) ?_
    cases hf
    subst hQ
    exact r_iret X hP hD hS dX10_nod_23
  · replace hf := if_f hf hc_3
    refine lv_aload_n X.hx X.hb dX10_nod_11 rfl (lv_at hl 0 rfl) ?_
    refine gf_X10_19 X hP 0 (get_blk (L := ([] : va_W)) (g := (gX G uX xX0 (uC 0) xX2 (uM 0) xX4 xX7 xX8 xX9 xX10 xX11 xX12 xX13 (kq aU) iX)) (R := (gM G uM (uC 0) iM sM ++ gU G aU (uC 0) iU sU ++ gC G uC iC tC sC)) (k := 0) (by simp only [List.append_assoc, List.append_nil, List.nil_append]) rfl rfl) (v := .ref (uC 0)) rfl dX10_nod_12 ?_
    refine lv_iload_n X.hx X.hb dX10_nod_15 rfl (lv_at hl 2 rfl) ?_
    obtain ⟨r_4, hc_5, hf⟩ := bd_i hf
    refine r_bvi (gX G uX xX0 (uC 0) xX2 (uM 0) xX4 xX7 xX8 xX9 xX10 xX11 xX12 xX13 (kq aU) iX ++ gM G uM (uC 0) iM sM ++ gU G aU (uC 0) iU sU) ([] : va_W) (As := [.int p2]) (rest := []) X sm_X10_134 (c_X1_isPerson l G N uC iC tC sC p2 hc_5) hP hD hS hA (by simp only [List.append_assoc, List.append_nil, List.nil_append]) (wo := (gX G uX xX0 (uC 0) xX2 (uM 0) xX4 xX7 xX8 xX9 xX10 xX11 xX12 xX13 (kq aU) iX ++ gM G uM (uC 0) iM sM ++ gU G aU (uC 0) iU sU ++ gC G uC iC tC sC)) (by simp only [List.append_assoc, List.append_nil, List.nil_append]) 0 rfl rfl rfl hl.1 (lv_room (Nat.le_of_ble_eq_true rfl)) ⟨Nat.le_of_ble_eq_true rfl, Nat.le_of_ble_eq_true rfl⟩ ⟨Nat.zero_le _, Nat.zero_le _⟩ dX10_nod_16 (fun H locs hP hD hS => ?_)
    refine lv_if_ne (tgt := 24) X.hx X.hb dX10_nod_19 (by decide) (fun hc_6 => ?_) (fun hc_6 => ?_)
    · replace hf := if_f hf hc_6
      refine lv_aload_n X.hx X.hb dX10_nod_24 rfl (lv_at hl 0 rfl) ?_
      refine gf_X10_37 X hP 0 (get_blk (L := ([] : va_W)) (g := (gX G uX xX0 (uC 0) xX2 (uM 0) xX4 xX7 xX8 xX9 xX10 xX11 xX12 xX13 (kq aU) iX)) (R := (gM G uM (uC 0) iM sM ++ gU G aU (uC 0) iU sU ++ gC G uC iC tC sC)) (k := 0) (by simp only [List.append_assoc, List.append_nil, List.nil_append]) rfl rfl) (v := .ref (uM 0)) rfl dX10_nod_25 ?_
      refine lv_iload_n X.hx X.hb dX10_nod_28 rfl (lv_at hl 1 rfl) ?_
      refine lv_iload_n X.hx X.hb dX10_nod_29 rfl (lv_at hl 2 rfl) ?_
      obtain ⟨r_7, hc_8, hf⟩ := bd_i hf
      refine r_pvi [gX G uX xX0 (uC 0) xX2 (uM 0) xX4 xX7 xX8 xX9 xX10 xX11 xX12 xX13 (kq aU) iX, gM G uM (uC 0) iM sM, gU G aU (uC 0) iU sU, gC G uC iC tC sC] [gX G uX xX0 (uC 0) xX2 (uM 0) xX4 xX7 xX8 xX9 xX10 xX11 xX12 xX13 (kq aU) iX, gM G uM (uC 0) iM sM, gU G aU (uC 0) iU sU, gC G uC iC tC sC] [gM G uM (uC 0) iM sM, gC G uC iC tC sC] [gM G uM (uC 0) iM sM, gC G uC iC tC sC] [gX G uX xX0 (uC 0) xX2 (uM 0) xX4 xX7 xX8 xX9 xX10 xX11 xX12 xX13 (kq aU) iX, gU G aU (uC 0) iU sU] 4 [1, 3] [0, 2] (As := [.int p1, .int p2]) (rest := []) X sm_X10_222 (c_X4_whyNotNod l G N uM uC iM sM iC tC sC p1 p2 hc_8) hP hD hS hA rfl rfl (by decide) (by simp only [List.flatten_cons, List.flatten_nil, List.append_assoc, List.append_nil]) rfl (by simp only [List.flatten_cons, List.flatten_nil, List.append_assoc, List.append_nil]) rfl (by simp only [List.flatten_cons, List.flatten_nil, List.append_assoc, List.append_nil]) rfl rfl (wo := (gX G uX xX0 (uC 0) xX2 (uM 0) xX4 xX7 xX8 xX9 xX10 xX11 xX12 xX13 (kq aU) iX ++ gM G uM (uC 0) iM sM ++ gU G aU (uC 0) iU sU ++ gC G uC iC tC sC)) (by simp only [List.flatten_cons, List.flatten_nil, List.append_assoc, List.append_nil]) 0 rfl rfl rfl hl.1 (lv_room (Nat.le_of_ble_eq_true rfl)) ⟨Nat.le_of_ble_eq_true rfl, Nat.le_of_ble_eq_true rfl⟩ ⟨Nat.zero_le _, Nat.zero_le _⟩ dX10_nod_30 (fun H locs hP hD hS => ?_)
      refine lv_istore_n (lv' := [(3, .int r_7), (0, .ref (uX 0)), (1, .int p1), (2, .int p2)]) X.hx X.hb dX10_nod_33 rfl hl (by decide) rfl (fun ls hl => ?_)
      refine lv_iload_n X.hx X.hb dX10_nod_34 rfl (lv_at hl 0 rfl) ?_
      refine lv_if_ne (tgt := 51) X.hx X.hb dX10_nod_35 (by decide) (fun hc_9 => ?_) (fun hc_9 => ?_)
      · replace hf := if_f hf hc_9
        refine lv_iload_n X.hx X.hb dX10_nod_51 rfl (lv_at hl 0 rfl) ?_
        cases hf
        subst hQ
        exact r_iret X hP hD hS dX10_nod_52
      · replace hf := if_t hf hc_9
        refine lv_aload_n X.hx X.hb dX10_nod_38 rfl (lv_at hl 1 rfl) ?_
        obtain ⟨⟨iX_10, aU_11, iU_12, sU_13⟩, hc_14, hf⟩ := bd_i hf
        refine r_bvv ([] : va_W) (gC G uC iC tC sC) (As := []) (rest := []) X sm_X10_215 (c_X10_keepU l G N uX uM xX0 (uC 0) xX2 xX4 xX7 xX8 xX9 xX10 xX11 xX12 xX13 (uC 0) iX iM sM aU iU sU hc_14) hP hD hS hA (by simp only [List.append_assoc, List.append_nil, List.nil_append]) (wo := (gX G uX xX0 (uC 0) xX2 (uM 0) xX4 xX7 xX8 xX9 xX10 xX11 xX12 xX13 (kq aU_11) iX_10 ++ gM G uM (uC 0) iM sM ++ gU G aU_11 (uC 0) iU_12 sU_13 ++ gC G uC iC tC sC)) (by simp only [List.append_assoc, List.append_nil, List.nil_append]) 0 rfl rfl rfl hl.1 (lv_room (Nat.le_of_ble_eq_true rfl)) ⟨Nat.le_of_ble_eq_true rfl, Nat.le_of_ble_eq_true rfl⟩ ⟨Nat.zero_le _, Nat.zero_le _⟩ dX10_nod_39 (fun H locs hP hD hS => ?_)
        refine lv_aload_n X.hx X.hb dX10_nod_42 rfl (lv_at hl 1 rfl) ?_
        refine gf_X10_37 X hP 0 (get_blk (L := ([] : va_W)) (g := (gX G uX xX0 (uC 0) xX2 (uM 0) xX4 xX7 xX8 xX9 xX10 xX11 xX12 xX13 (kq aU_11) iX_10)) (R := (gM G uM (uC 0) iM sM ++ gU G aU_11 (uC 0) iU_12 sU_13 ++ gC G uC iC tC sC)) (k := 0) (by simp only [List.append_assoc, List.append_nil, List.nil_append]) rfl rfl) (v := .ref (uM 0)) rfl dX10_nod_43 ?_
        refine lv_iload_n X.hx X.hb dX10_nod_46 rfl (lv_at hl 2 rfl) ?_
        refine lv_iload_n X.hx X.hb dX10_nod_47 rfl (lv_at hl 3 rfl) ?_
        obtain ⟨⟨iM_15, sM_16⟩, hc_17, hf⟩ := bd_i hf
        refine r_pvv [gX G uX xX0 (uC 0) xX2 (uM 0) xX4 xX7 xX8 xX9 xX10 xX11 xX12 xX13 (kq aU_11) iX_10, gM G uM (uC 0) iM sM, gU G aU_11 (uC 0) iU_12 sU_13, gC G uC iC tC sC] [gX G uX xX0 (uC 0) xX2 (uM 0) xX4 xX7 xX8 xX9 xX10 xX11 xX12 xX13 (kq aU_11) iX_10, gM G uM (uC 0) iM_15 sM_16, gU G aU_11 (uC 0) iU_12 sU_13, gC G uC iC tC sC] [gM G uM (uC 0) iM sM, gC G uC iC tC sC] [gM G uM (uC 0) iM_15 sM_16, gC G uC iC tC sC] [gX G uX xX0 (uC 0) xX2 (uM 0) xX4 xX7 xX8 xX9 xX10 xX11 xX12 xX13 (kq aU_11) iX_10, gU G aU_11 (uC 0) iU_12 sU_13] 4 [1, 3] [0, 2] (As := [.int p1, .int p2]) (rest := []) X sm_X10_225 (c_X4_doNod l G N uM uC iM sM iC tC sC p1 p2 hc_17) hP hD hS hA rfl rfl (by decide) (by simp only [List.flatten_cons, List.flatten_nil, List.append_assoc, List.append_nil]) rfl (by simp only [List.flatten_cons, List.flatten_nil, List.append_assoc, List.append_nil]) rfl (by simp only [List.flatten_cons, List.flatten_nil, List.append_assoc, List.append_nil]) rfl rfl (wo := (gX G uX xX0 (uC 0) xX2 (uM 0) xX4 xX7 xX8 xX9 xX10 xX11 xX12 xX13 (kq aU_11) iX_10 ++ gM G uM (uC 0) iM_15 sM_16 ++ gU G aU_11 (uC 0) iU_12 sU_13 ++ gC G uC iC tC sC)) (by simp only [List.flatten_cons, List.flatten_nil, List.append_assoc, List.append_nil]) 0 rfl rfl rfl hl.1 (lv_room (Nat.le_of_ble_eq_true rfl)) ⟨Nat.le_of_ble_eq_true rfl, Nat.le_of_ble_eq_true rfl⟩ ⟨Nat.zero_le _, Nat.zero_le _⟩ dX10_nod_48 (fun H locs hP hD hS => ?_)
        refine lv_iload_n X.hx X.hb dX10_nod_51 rfl (lv_at hl 0 rfl) ?_
        cases hf
        subst hQ
        exact r_iret X hP hD hS dX10_nod_52
    · replace hf := if_t hf hc_6
      refine lv_iconst (v := (-1)) X.hx X.hb dX10_nod_22 (by decide) ?_
      cases hf
      subst hQ
      exact r_iret X hP hD hS dX10_nod_23

def f_X10_veil (N : Nat) (iX : Nat → Int32) (iM : Nat → Int32) (sM : Nat → Nat → Int32) (aU : Nat → Nat → Nat) (iU : Nat → Nat → Int32) (sU : Nat → Nat → Nat → Int32) (iC : Nat → Int32) (tC : Nat → Nat → Int64) (sC : Nat → Nat → Int32) (p1 : Int32) : Option (Int32 × (Nat → Int32) × (Nat → Int32) × (Nat → Nat → Nat) × (Nat → Nat → Int32) × (Nat → Nat → Nat → Int32)) :=
  bd (f_X1_isPerson N iC tC sC p1) (fun r_1 => (if r_1 = 0 then some ((-1), iX, iM, aU, iU, sU) else bd (f_X4_whyNotVeil N iM sM iC tC sC p1) (fun r_4 => (if r_4 = 0 then bd (f_X10_keepU N iX iM sM aU iU sU) (fun (iX_7, aU_8, iU_9, sU_10) => bd (f_X4_doVeil N iM sM iC tC sC p1) (fun iM_12 => some (r_4, iX_7, iM_12, aU_8, iU_9, sU_10))) else some (r_4, iX, iM, aU, iU, sU)))))
set_option maxHeartbeats 4000000 in
set_option maxRecDepth 100000 in
theorem c_X10_veil (l : Launch) (G : GT) (N : Nat) (uX uM uC : Nat → Nat) (xX0 xX2 xX4 xX7 xX8 xX9 xX10 xX11 xX12 xX13 : Nat) (iX : Nat → Int32) (iM : Nat → Int32) (sM : Nat → Nat → Int32) (aU : Nat → Nat → Nat) (iU : Nat → Nat → Int32) (sU : Nat → Nat → Nat → Int32) (iC : Nat → Int32) (tC : Nat → Nat → Int64) (sC : Nat → Nat → Int32) (p1 : Int32) {r : Int32} {iX' : Nat → Int32} {iM' : Nat → Int32} {aU' : Nat → Nat → Nat} {iU' : Nat → Nat → Int32} {sU' : Nat → Nat → Nat → Int32} (hf : f_X10_veil N iX iM sM aU iU sU iC tC sC p1 = some (r, iX', iM', aU', iU', sU')) : CI l G yX10_veil cX10_veil 3 .int 4 [.ref (uX 0), .int p1] (gX G uX xX0 (uC 0) xX2 (uM 0) xX4 xX7 xX8 xX9 xX10 xX11 xX12 xX13 (kq aU) iX ++ gM G uM (uC 0) iM sM ++ gU G aU (uC 0) iU sU ++ gC G uC iC tC sC) r (gX G uX xX0 (uC 0) xX2 (uM 0) xX4 xX7 xX8 xX9 xX10 xX11 xX12 xX13 (kq aU') iX' ++ gM G uM (uC 0) iM' sM ++ gU G aU' (uC 0) iU' sU' ++ gC G uC iC tC sC) := by
  refine CI.of (by decide) (Nat.le_of_ble_eq_true rfl) ?_
  intro p e s m args below meth c A X hA hP hD hS ls hl
  have hl : lv_has ls 3 [(0, .ref (uX 0)), (1, .int p1)] := hl
  generalize hQ : MQ below (QI G A r (gX G uX xX0 (uC 0) xX2 (uM 0) xX4 xX7 xX8 xX9 xX10 xX11 xX12 xX13 (kq aU') iX' ++ gM G uM (uC 0) iM' sM ++ gU G aU' (uC 0) iU' sU' ++ gC G uC iC tC sC)) args s 0 0 A = QQ
  unfold f_X10_veil at hf
  refine lv_aload_n X.hx X.hb dX10_veil_0 rfl (lv_at hl 0 rfl) ?_
  refine gf_X10_19 X hP 0 (get_blk (L := ([] : va_W)) (g := (gX G uX xX0 (uC 0) xX2 (uM 0) xX4 xX7 xX8 xX9 xX10 xX11 xX12 xX13 (kq aU) iX)) (R := (gM G uM (uC 0) iM sM ++ gU G aU (uC 0) iU sU ++ gC G uC iC tC sC)) (k := 0) (by simp only [List.append_assoc, List.append_nil, List.nil_append]) rfl rfl) (v := .ref (uC 0)) rfl dX10_veil_1 ?_
  refine lv_iload_n X.hx X.hb dX10_veil_4 rfl (lv_at hl 1 rfl) ?_
  obtain ⟨r_1, hc_2, hf⟩ := bd_i hf
  refine r_bvi (gX G uX xX0 (uC 0) xX2 (uM 0) xX4 xX7 xX8 xX9 xX10 xX11 xX12 xX13 (kq aU) iX ++ gM G uM (uC 0) iM sM ++ gU G aU (uC 0) iU sU) ([] : va_W) (As := [.int p1]) (rest := []) X sm_X10_134 (c_X1_isPerson l G N uC iC tC sC p1 hc_2) hP hD hS hA (by simp only [List.append_assoc, List.append_nil, List.nil_append]) (wo := (gX G uX xX0 (uC 0) xX2 (uM 0) xX4 xX7 xX8 xX9 xX10 xX11 xX12 xX13 (kq aU) iX ++ gM G uM (uC 0) iM sM ++ gU G aU (uC 0) iU sU ++ gC G uC iC tC sC)) (by simp only [List.append_assoc, List.append_nil, List.nil_append]) 0 rfl rfl rfl hl.1 (lv_room (Nat.le_of_ble_eq_true rfl)) ⟨Nat.le_of_ble_eq_true rfl, Nat.le_of_ble_eq_true rfl⟩ ⟨Nat.zero_le _, Nat.zero_le _⟩ dX10_veil_5 (fun H locs hP hD hS => ?_)
  refine lv_if_ne (tgt := 13) X.hx X.hb dX10_veil_8 (by decide) (fun hc_3 => ?_) (fun hc_3 => ?_)
  · replace hf := if_f hf hc_3
    refine lv_aload_n X.hx X.hb dX10_veil_13 rfl (lv_at hl 0 rfl) ?_
    refine gf_X10_37 X hP 0 (get_blk (L := ([] : va_W)) (g := (gX G uX xX0 (uC 0) xX2 (uM 0) xX4 xX7 xX8 xX9 xX10 xX11 xX12 xX13 (kq aU) iX)) (R := (gM G uM (uC 0) iM sM ++ gU G aU (uC 0) iU sU ++ gC G uC iC tC sC)) (k := 0) (by simp only [List.append_assoc, List.append_nil, List.nil_append]) rfl rfl) (v := .ref (uM 0)) rfl dX10_veil_14 ?_
    refine lv_iload_n X.hx X.hb dX10_veil_17 rfl (lv_at hl 1 rfl) ?_
    obtain ⟨r_4, hc_5, hf⟩ := bd_i hf
    refine r_pvi [gX G uX xX0 (uC 0) xX2 (uM 0) xX4 xX7 xX8 xX9 xX10 xX11 xX12 xX13 (kq aU) iX, gM G uM (uC 0) iM sM, gU G aU (uC 0) iU sU, gC G uC iC tC sC] [gX G uX xX0 (uC 0) xX2 (uM 0) xX4 xX7 xX8 xX9 xX10 xX11 xX12 xX13 (kq aU) iX, gM G uM (uC 0) iM sM, gU G aU (uC 0) iU sU, gC G uC iC tC sC] [gM G uM (uC 0) iM sM, gC G uC iC tC sC] [gM G uM (uC 0) iM sM, gC G uC iC tC sC] [gX G uX xX0 (uC 0) xX2 (uM 0) xX4 xX7 xX8 xX9 xX10 xX11 xX12 xX13 (kq aU) iX, gU G aU (uC 0) iU sU] 4 [1, 3] [0, 2] (As := [.int p1]) (rest := []) X sm_X10_229 (c_X4_whyNotVeil l G N uM uC iM sM iC tC sC p1 hc_5) hP hD hS hA rfl rfl (by decide) (by simp only [List.flatten_cons, List.flatten_nil, List.append_assoc, List.append_nil]) rfl (by simp only [List.flatten_cons, List.flatten_nil, List.append_assoc, List.append_nil]) rfl (by simp only [List.flatten_cons, List.flatten_nil, List.append_assoc, List.append_nil]) rfl rfl (wo := (gX G uX xX0 (uC 0) xX2 (uM 0) xX4 xX7 xX8 xX9 xX10 xX11 xX12 xX13 (kq aU) iX ++ gM G uM (uC 0) iM sM ++ gU G aU (uC 0) iU sU ++ gC G uC iC tC sC)) (by simp only [List.flatten_cons, List.flatten_nil, List.append_assoc, List.append_nil]) 0 rfl rfl rfl hl.1 (lv_room (Nat.le_of_ble_eq_true rfl)) ⟨Nat.le_of_ble_eq_true rfl, Nat.le_of_ble_eq_true rfl⟩ ⟨Nat.zero_le _, Nat.zero_le _⟩ dX10_veil_18 (fun H locs hP hD hS => ?_)
    refine lv_istore_n (lv' := [(2, .int r_4), (0, .ref (uX 0)), (1, .int p1)]) X.hx X.hb dX10_veil_21 rfl hl (by decide) rfl (fun ls hl => ?_)
    refine lv_iload_n X.hx X.hb dX10_veil_22 rfl (lv_at hl 0 rfl) ?_
    refine lv_if_ne (tgt := 38) X.hx X.hb dX10_veil_23 (by decide) (fun hc_6 => ?_) (fun hc_6 => ?_)
    · replace hf := if_f hf hc_6
      refine lv_iload_n X.hx X.hb dX10_veil_38 rfl (lv_at hl 0 rfl) ?_
      cases hf
      subst hQ
      exact r_iret X hP hD hS dX10_veil_39
    · replace hf := if_t hf hc_6
      refine lv_aload_n X.hx X.hb dX10_veil_26 rfl (lv_at hl 1 rfl) ?_
      obtain ⟨⟨iX_7, aU_8, iU_9, sU_10⟩, hc_11, hf⟩ := bd_i hf
      refine r_bvv ([] : va_W) (gC G uC iC tC sC) (As := []) (rest := []) X sm_X10_215 (c_X10_keepU l G N uX uM xX0 (uC 0) xX2 xX4 xX7 xX8 xX9 xX10 xX11 xX12 xX13 (uC 0) iX iM sM aU iU sU hc_11) hP hD hS hA (by simp only [List.append_assoc, List.append_nil, List.nil_append]) (wo := (gX G uX xX0 (uC 0) xX2 (uM 0) xX4 xX7 xX8 xX9 xX10 xX11 xX12 xX13 (kq aU_8) iX_7 ++ gM G uM (uC 0) iM sM ++ gU G aU_8 (uC 0) iU_9 sU_10 ++ gC G uC iC tC sC)) (by simp only [List.append_assoc, List.append_nil, List.nil_append]) 0 rfl rfl rfl hl.1 (lv_room (Nat.le_of_ble_eq_true rfl)) ⟨Nat.le_of_ble_eq_true rfl, Nat.le_of_ble_eq_true rfl⟩ ⟨Nat.zero_le _, Nat.zero_le _⟩ dX10_veil_27 (fun H locs hP hD hS => ?_)
      refine lv_aload_n X.hx X.hb dX10_veil_30 rfl (lv_at hl 1 rfl) ?_
      refine gf_X10_37 X hP 0 (get_blk (L := ([] : va_W)) (g := (gX G uX xX0 (uC 0) xX2 (uM 0) xX4 xX7 xX8 xX9 xX10 xX11 xX12 xX13 (kq aU_8) iX_7)) (R := (gM G uM (uC 0) iM sM ++ gU G aU_8 (uC 0) iU_9 sU_10 ++ gC G uC iC tC sC)) (k := 0) (by simp only [List.append_assoc, List.append_nil, List.nil_append]) rfl rfl) (v := .ref (uM 0)) rfl dX10_veil_31 ?_
      refine lv_iload_n X.hx X.hb dX10_veil_34 rfl (lv_at hl 2 rfl) ?_
      obtain ⟨iM_12, hc_13, hf⟩ := bd_i hf
      refine r_pvv [gX G uX xX0 (uC 0) xX2 (uM 0) xX4 xX7 xX8 xX9 xX10 xX11 xX12 xX13 (kq aU_8) iX_7, gM G uM (uC 0) iM sM, gU G aU_8 (uC 0) iU_9 sU_10, gC G uC iC tC sC] [gX G uX xX0 (uC 0) xX2 (uM 0) xX4 xX7 xX8 xX9 xX10 xX11 xX12 xX13 (kq aU_8) iX_7, gM G uM (uC 0) iM_12 sM, gU G aU_8 (uC 0) iU_9 sU_10, gC G uC iC tC sC] [gM G uM (uC 0) iM sM, gC G uC iC tC sC] [gM G uM (uC 0) iM_12 sM, gC G uC iC tC sC] [gX G uX xX0 (uC 0) xX2 (uM 0) xX4 xX7 xX8 xX9 xX10 xX11 xX12 xX13 (kq aU_8) iX_7, gU G aU_8 (uC 0) iU_9 sU_10] 4 [1, 3] [0, 2] (As := [.int p1]) (rest := []) X sm_X10_232 (c_X4_doVeil l G N uM uC iM sM iC tC sC p1 hc_13) hP hD hS hA rfl rfl (by decide) (by simp only [List.flatten_cons, List.flatten_nil, List.append_assoc, List.append_nil]) rfl (by simp only [List.flatten_cons, List.flatten_nil, List.append_assoc, List.append_nil]) rfl (by simp only [List.flatten_cons, List.flatten_nil, List.append_assoc, List.append_nil]) rfl rfl (wo := (gX G uX xX0 (uC 0) xX2 (uM 0) xX4 xX7 xX8 xX9 xX10 xX11 xX12 xX13 (kq aU_8) iX_7 ++ gM G uM (uC 0) iM_12 sM ++ gU G aU_8 (uC 0) iU_9 sU_10 ++ gC G uC iC tC sC)) (by simp only [List.flatten_cons, List.flatten_nil, List.append_assoc, List.append_nil]) 0 rfl rfl rfl hl.1 (lv_room (Nat.le_of_ble_eq_true rfl)) ⟨Nat.le_of_ble_eq_true rfl, Nat.le_of_ble_eq_true rfl⟩ ⟨Nat.zero_le _, Nat.zero_le _⟩ dX10_veil_35 (fun H locs hP hD hS => ?_)
      refine lv_iload_n X.hx X.hb dX10_veil_38 rfl (lv_at hl 0 rfl) ?_
      cases hf
      subst hQ
      exact r_iret X hP hD hS dX10_veil_39
  · replace hf := if_t hf hc_3
    refine lv_iconst (v := (-1)) X.hx X.hb dX10_veil_11 (by decide) ?_
    cases hf
    subst hQ
    exact r_iret X hP hD hS dX10_veil_12

def f_X10_tell (N : Nat) (iX : Nat → Int32) (iM : Nat → Int32) (sM : Nat → Nat → Int32) (aU : Nat → Nat → Nat) (iU : Nat → Nat → Int32) (sU : Nat → Nat → Nat → Int32) (iC : Nat → Int32) (tC : Nat → Nat → Int64) (sC : Nat → Nat → Int32) (p1 : Int32) (p2 : Int32) (p3 : Int32) : Option (Int32 × (Nat → Int32) × (Nat → Nat → Int32) × (Nat → Nat → Nat) × (Nat → Nat → Int32) × (Nat → Nat → Nat → Int32)) :=
  bd (f_X1_isPerson N iC tC sC p1) (fun r_1 => (if r_1 = 0 then some ((-1), iX, sM, aU, iU, sU) else bd (f_X1_isPerson N iC tC sC p2) (fun r_4 => (if r_4 = 0 then some ((-1), iX, sM, aU, iU, sU) else bd (f_X1_isPerson N iC tC sC p3) (fun r_7 => (if r_7 = 0 then some ((-1), iX, sM, aU, iU, sU) else bd (f_X4_whyNotTell N iM sM iC tC sC p1 p2 p3) (fun r_10 => (if r_10 = 0 then bd (f_X10_keepU N iX iM sM aU iU sU) (fun (iX_13, aU_14, iU_15, sU_16) => bd (f_X4_meet N iM sM iC tC sC p2 p3) (fun sM_18 => some (r_10, iX_13, sM_18, aU_14, iU_15, sU_16))) else some (r_10, iX, sM, aU, iU, sU)))))))))
set_option maxHeartbeats 4000000 in
set_option maxRecDepth 100000 in
theorem c_X10_tell (l : Launch) (G : GT) (N : Nat) (uX uM uC : Nat → Nat) (xX0 xX2 xX4 xX7 xX8 xX9 xX10 xX11 xX12 xX13 : Nat) (iX : Nat → Int32) (iM : Nat → Int32) (sM : Nat → Nat → Int32) (aU : Nat → Nat → Nat) (iU : Nat → Nat → Int32) (sU : Nat → Nat → Nat → Int32) (iC : Nat → Int32) (tC : Nat → Nat → Int64) (sC : Nat → Nat → Int32) (p1 : Int32) (p2 : Int32) (p3 : Int32) {r : Int32} {iX' : Nat → Int32} {sM' : Nat → Nat → Int32} {aU' : Nat → Nat → Nat} {iU' : Nat → Nat → Int32} {sU' : Nat → Nat → Nat → Int32} (hf : f_X10_tell N iX iM sM aU iU sU iC tC sC p1 p2 p3 = some (r, iX', sM', aU', iU', sU')) : CI l G yX10_tell cX10_tell 5 .int 4 [.ref (uX 0), .int p1, .int p2, .int p3] (gX G uX xX0 (uC 0) xX2 (uM 0) xX4 xX7 xX8 xX9 xX10 xX11 xX12 xX13 (kq aU) iX ++ gM G uM (uC 0) iM sM ++ gU G aU (uC 0) iU sU ++ gC G uC iC tC sC) r (gX G uX xX0 (uC 0) xX2 (uM 0) xX4 xX7 xX8 xX9 xX10 xX11 xX12 xX13 (kq aU') iX' ++ gM G uM (uC 0) iM sM' ++ gU G aU' (uC 0) iU' sU' ++ gC G uC iC tC sC) := by
  refine CI.of (by decide) (Nat.le_of_ble_eq_true rfl) ?_
  intro p e s m args below meth c A X hA hP hD hS ls hl
  have hl : lv_has ls 5 [(0, .ref (uX 0)), (1, .int p1), (2, .int p2), (3, .int p3)] := hl
  generalize hQ : MQ below (QI G A r (gX G uX xX0 (uC 0) xX2 (uM 0) xX4 xX7 xX8 xX9 xX10 xX11 xX12 xX13 (kq aU') iX' ++ gM G uM (uC 0) iM sM' ++ gU G aU' (uC 0) iU' sU' ++ gC G uC iC tC sC)) args s 0 0 A = QQ
  unfold f_X10_tell at hf
  refine lv_aload_n X.hx X.hb dX10_tell_0 rfl (lv_at hl 0 rfl) ?_
  refine gf_X10_19 X hP 0 (get_blk (L := ([] : va_W)) (g := (gX G uX xX0 (uC 0) xX2 (uM 0) xX4 xX7 xX8 xX9 xX10 xX11 xX12 xX13 (kq aU) iX)) (R := (gM G uM (uC 0) iM sM ++ gU G aU (uC 0) iU sU ++ gC G uC iC tC sC)) (k := 0) (by simp only [List.append_assoc, List.append_nil, List.nil_append]) rfl rfl) (v := .ref (uC 0)) rfl dX10_tell_1 ?_
  refine lv_iload_n X.hx X.hb dX10_tell_4 rfl (lv_at hl 1 rfl) ?_
  obtain ⟨r_1, hc_2, hf⟩ := bd_i hf
  refine r_bvi (gX G uX xX0 (uC 0) xX2 (uM 0) xX4 xX7 xX8 xX9 xX10 xX11 xX12 xX13 (kq aU) iX ++ gM G uM (uC 0) iM sM ++ gU G aU (uC 0) iU sU) ([] : va_W) (As := [.int p1]) (rest := []) X sm_X10_134 (c_X1_isPerson l G N uC iC tC sC p1 hc_2) hP hD hS hA (by simp only [List.append_assoc, List.append_nil, List.nil_append]) (wo := (gX G uX xX0 (uC 0) xX2 (uM 0) xX4 xX7 xX8 xX9 xX10 xX11 xX12 xX13 (kq aU) iX ++ gM G uM (uC 0) iM sM ++ gU G aU (uC 0) iU sU ++ gC G uC iC tC sC)) (by simp only [List.append_assoc, List.append_nil, List.nil_append]) 0 rfl rfl rfl hl.1 (lv_room (Nat.le_of_ble_eq_true rfl)) ⟨Nat.le_of_ble_eq_true rfl, Nat.le_of_ble_eq_true rfl⟩ ⟨Nat.zero_le _, Nat.zero_le _⟩ dX10_tell_5 (fun H locs hP hD hS => ?_)
  refine lv_if_eq (tgt := 33) X.hx X.hb dX10_tell_8 (by decide) (fun hc_3 => ?_) (fun hc_3 => ?_)
  · replace hf := if_t hf hc_3
    refine lv_iconst (v := (-1)) X.hx X.hb dX10_tell_33 (by decide) ?_
    cases hf
    subst hQ
    exact r_iret X hP hD hS dX10_tell_34
  · replace hf := if_f hf hc_3
    refine lv_aload_n X.hx X.hb dX10_tell_11 rfl (lv_at hl 0 rfl) ?_
    refine gf_X10_19 X hP 0 (get_blk (L := ([] : va_W)) (g := (gX G uX xX0 (uC 0) xX2 (uM 0) xX4 xX7 xX8 xX9 xX10 xX11 xX12 xX13 (kq aU) iX)) (R := (gM G uM (uC 0) iM sM ++ gU G aU (uC 0) iU sU ++ gC G uC iC tC sC)) (k := 0) (by simp only [List.append_assoc, List.append_nil, List.nil_append]) rfl rfl) (v := .ref (uC 0)) rfl dX10_tell_12 ?_
    refine lv_iload_n X.hx X.hb dX10_tell_15 rfl (lv_at hl 2 rfl) ?_
    obtain ⟨r_4, hc_5, hf⟩ := bd_i hf
    refine r_bvi (gX G uX xX0 (uC 0) xX2 (uM 0) xX4 xX7 xX8 xX9 xX10 xX11 xX12 xX13 (kq aU) iX ++ gM G uM (uC 0) iM sM ++ gU G aU (uC 0) iU sU) ([] : va_W) (As := [.int p2]) (rest := []) X sm_X10_134 (c_X1_isPerson l G N uC iC tC sC p2 hc_5) hP hD hS hA (by simp only [List.append_assoc, List.append_nil, List.nil_append]) (wo := (gX G uX xX0 (uC 0) xX2 (uM 0) xX4 xX7 xX8 xX9 xX10 xX11 xX12 xX13 (kq aU) iX ++ gM G uM (uC 0) iM sM ++ gU G aU (uC 0) iU sU ++ gC G uC iC tC sC)) (by simp only [List.append_assoc, List.append_nil, List.nil_append]) 0 rfl rfl rfl hl.1 (lv_room (Nat.le_of_ble_eq_true rfl)) ⟨Nat.le_of_ble_eq_true rfl, Nat.le_of_ble_eq_true rfl⟩ ⟨Nat.zero_le _, Nat.zero_le _⟩ dX10_tell_16 (fun H locs hP hD hS => ?_)
    refine lv_if_eq (tgt := 33) X.hx X.hb dX10_tell_19 (by decide) (fun hc_6 => ?_) (fun hc_6 => ?_)
    · replace hf := if_t hf hc_6
      refine lv_iconst (v := (-1)) X.hx X.hb dX10_tell_33 (by decide) ?_
      cases hf
      subst hQ
      exact r_iret X hP hD hS dX10_tell_34
    · replace hf := if_f hf hc_6
      refine lv_aload_n X.hx X.hb dX10_tell_22 rfl (lv_at hl 0 rfl) ?_
      refine gf_X10_19 X hP 0 (get_blk (L := ([] : va_W)) (g := (gX G uX xX0 (uC 0) xX2 (uM 0) xX4 xX7 xX8 xX9 xX10 xX11 xX12 xX13 (kq aU) iX)) (R := (gM G uM (uC 0) iM sM ++ gU G aU (uC 0) iU sU ++ gC G uC iC tC sC)) (k := 0) (by simp only [List.append_assoc, List.append_nil, List.nil_append]) rfl rfl) (v := .ref (uC 0)) rfl dX10_tell_23 ?_
      refine lv_iload_n X.hx X.hb dX10_tell_26 rfl (lv_at hl 3 rfl) ?_
      obtain ⟨r_7, hc_8, hf⟩ := bd_i hf
      refine r_bvi (gX G uX xX0 (uC 0) xX2 (uM 0) xX4 xX7 xX8 xX9 xX10 xX11 xX12 xX13 (kq aU) iX ++ gM G uM (uC 0) iM sM ++ gU G aU (uC 0) iU sU) ([] : va_W) (As := [.int p3]) (rest := []) X sm_X10_134 (c_X1_isPerson l G N uC iC tC sC p3 hc_8) hP hD hS hA (by simp only [List.append_assoc, List.append_nil, List.nil_append]) (wo := (gX G uX xX0 (uC 0) xX2 (uM 0) xX4 xX7 xX8 xX9 xX10 xX11 xX12 xX13 (kq aU) iX ++ gM G uM (uC 0) iM sM ++ gU G aU (uC 0) iU sU ++ gC G uC iC tC sC)) (by simp only [List.append_assoc, List.append_nil, List.nil_append]) 0 rfl rfl rfl hl.1 (lv_room (Nat.le_of_ble_eq_true rfl)) ⟨Nat.le_of_ble_eq_true rfl, Nat.le_of_ble_eq_true rfl⟩ ⟨Nat.zero_le _, Nat.zero_le _⟩ dX10_tell_27 (fun H locs hP hD hS => ?_)
      refine lv_if_ne (tgt := 35) X.hx X.hb dX10_tell_30 (by decide) (fun hc_9 => ?_) (fun hc_9 => ?_)
      · replace hf := if_f hf hc_9
        refine lv_aload_n X.hx X.hb dX10_tell_35 rfl (lv_at hl 0 rfl) ?_
        refine gf_X10_37 X hP 0 (get_blk (L := ([] : va_W)) (g := (gX G uX xX0 (uC 0) xX2 (uM 0) xX4 xX7 xX8 xX9 xX10 xX11 xX12 xX13 (kq aU) iX)) (R := (gM G uM (uC 0) iM sM ++ gU G aU (uC 0) iU sU ++ gC G uC iC tC sC)) (k := 0) (by simp only [List.append_assoc, List.append_nil, List.nil_append]) rfl rfl) (v := .ref (uM 0)) rfl dX10_tell_36 ?_
        refine lv_iload_n X.hx X.hb dX10_tell_39 rfl (lv_at hl 1 rfl) ?_
        refine lv_iload_n X.hx X.hb dX10_tell_40 rfl (lv_at hl 2 rfl) ?_
        refine lv_iload_n X.hx X.hb dX10_tell_41 rfl (lv_at hl 3 rfl) ?_
        obtain ⟨r_10, hc_11, hf⟩ := bd_i hf
        refine r_pvi [gX G uX xX0 (uC 0) xX2 (uM 0) xX4 xX7 xX8 xX9 xX10 xX11 xX12 xX13 (kq aU) iX, gM G uM (uC 0) iM sM, gU G aU (uC 0) iU sU, gC G uC iC tC sC] [gX G uX xX0 (uC 0) xX2 (uM 0) xX4 xX7 xX8 xX9 xX10 xX11 xX12 xX13 (kq aU) iX, gM G uM (uC 0) iM sM, gU G aU (uC 0) iU sU, gC G uC iC tC sC] [gM G uM (uC 0) iM sM, gC G uC iC tC sC] [gM G uM (uC 0) iM sM, gC G uC iC tC sC] [gX G uX xX0 (uC 0) xX2 (uM 0) xX4 xX7 xX8 xX9 xX10 xX11 xX12 xX13 (kq aU) iX, gU G aU (uC 0) iU sU] 4 [1, 3] [0, 2] (As := [.int p1, .int p2, .int p3]) (rest := []) X sm_X10_235 (c_X4_whyNotTell l G N uM uC iM sM iC tC sC p1 p2 p3 hc_11) hP hD hS hA rfl rfl (by decide) (by simp only [List.flatten_cons, List.flatten_nil, List.append_assoc, List.append_nil]) rfl (by simp only [List.flatten_cons, List.flatten_nil, List.append_assoc, List.append_nil]) rfl (by simp only [List.flatten_cons, List.flatten_nil, List.append_assoc, List.append_nil]) rfl rfl (wo := (gX G uX xX0 (uC 0) xX2 (uM 0) xX4 xX7 xX8 xX9 xX10 xX11 xX12 xX13 (kq aU) iX ++ gM G uM (uC 0) iM sM ++ gU G aU (uC 0) iU sU ++ gC G uC iC tC sC)) (by simp only [List.flatten_cons, List.flatten_nil, List.append_assoc, List.append_nil]) 0 rfl rfl rfl hl.1 (lv_room (Nat.le_of_ble_eq_true rfl)) ⟨Nat.le_of_ble_eq_true rfl, Nat.le_of_ble_eq_true rfl⟩ ⟨Nat.zero_le _, Nat.zero_le _⟩ dX10_tell_42 (fun H locs hP hD hS => ?_)
        refine lv_istore (lv' := [(4, .int r_10), (0, .ref (uX 0)), (1, .int p1), (2, .int p2), (3, .int p3)]) X.hx X.hb dX10_tell_45 hl (by decide) rfl (fun ls hl => ?_)
        refine lv_iload X.hx X.hb dX10_tell_47 (lv_at hl 0 rfl) ?_
        refine lv_if_ne (tgt := 65) X.hx X.hb dX10_tell_49 (by decide) (fun hc_12 => ?_) (fun hc_12 => ?_)
        · replace hf := if_f hf hc_12
          refine lv_iload X.hx X.hb dX10_tell_65 (lv_at hl 0 rfl) ?_
          cases hf
          subst hQ
          exact r_iret X hP hD hS dX10_tell_67
        · replace hf := if_t hf hc_12
          refine lv_aload_n X.hx X.hb dX10_tell_52 rfl (lv_at hl 1 rfl) ?_
          obtain ⟨⟨iX_13, aU_14, iU_15, sU_16⟩, hc_17, hf⟩ := bd_i hf
          refine r_bvv ([] : va_W) (gC G uC iC tC sC) (As := []) (rest := []) X sm_X10_215 (c_X10_keepU l G N uX uM xX0 (uC 0) xX2 xX4 xX7 xX8 xX9 xX10 xX11 xX12 xX13 (uC 0) iX iM sM aU iU sU hc_17) hP hD hS hA (by simp only [List.append_assoc, List.append_nil, List.nil_append]) (wo := (gX G uX xX0 (uC 0) xX2 (uM 0) xX4 xX7 xX8 xX9 xX10 xX11 xX12 xX13 (kq aU_14) iX_13 ++ gM G uM (uC 0) iM sM ++ gU G aU_14 (uC 0) iU_15 sU_16 ++ gC G uC iC tC sC)) (by simp only [List.append_assoc, List.append_nil, List.nil_append]) 0 rfl rfl rfl hl.1 (lv_room (Nat.le_of_ble_eq_true rfl)) ⟨Nat.le_of_ble_eq_true rfl, Nat.le_of_ble_eq_true rfl⟩ ⟨Nat.zero_le _, Nat.zero_le _⟩ dX10_tell_53 (fun H locs hP hD hS => ?_)
          refine lv_aload_n X.hx X.hb dX10_tell_56 rfl (lv_at hl 1 rfl) ?_
          refine gf_X10_37 X hP 0 (get_blk (L := ([] : va_W)) (g := (gX G uX xX0 (uC 0) xX2 (uM 0) xX4 xX7 xX8 xX9 xX10 xX11 xX12 xX13 (kq aU_14) iX_13)) (R := (gM G uM (uC 0) iM sM ++ gU G aU_14 (uC 0) iU_15 sU_16 ++ gC G uC iC tC sC)) (k := 0) (by simp only [List.append_assoc, List.append_nil, List.nil_append]) rfl rfl) (v := .ref (uM 0)) rfl dX10_tell_57 ?_
          refine lv_iload_n X.hx X.hb dX10_tell_60 rfl (lv_at hl 3 rfl) ?_
          refine lv_iload_n X.hx X.hb dX10_tell_61 rfl (lv_at hl 4 rfl) ?_
          obtain ⟨sM_18, hc_19, hf⟩ := bd_i hf
          refine r_pvv [gX G uX xX0 (uC 0) xX2 (uM 0) xX4 xX7 xX8 xX9 xX10 xX11 xX12 xX13 (kq aU_14) iX_13, gM G uM (uC 0) iM sM, gU G aU_14 (uC 0) iU_15 sU_16, gC G uC iC tC sC] [gX G uX xX0 (uC 0) xX2 (uM 0) xX4 xX7 xX8 xX9 xX10 xX11 xX12 xX13 (kq aU_14) iX_13, gM G uM (uC 0) iM sM_18, gU G aU_14 (uC 0) iU_15 sU_16, gC G uC iC tC sC] [gM G uM (uC 0) iM sM, gC G uC iC tC sC] [gM G uM (uC 0) iM sM_18, gC G uC iC tC sC] [gX G uX xX0 (uC 0) xX2 (uM 0) xX4 xX7 xX8 xX9 xX10 xX11 xX12 xX13 (kq aU_14) iX_13, gU G aU_14 (uC 0) iU_15 sU_16] 4 [1, 3] [0, 2] (As := [.int p2, .int p3]) (rest := []) X sm_X10_238 (c_X4_meet l G N uM uC iM sM iC tC sC p2 p3 hc_19) hP hD hS hA rfl rfl (by decide) (by simp only [List.flatten_cons, List.flatten_nil, List.append_assoc, List.append_nil]) rfl (by simp only [List.flatten_cons, List.flatten_nil, List.append_assoc, List.append_nil]) rfl (by simp only [List.flatten_cons, List.flatten_nil, List.append_assoc, List.append_nil]) rfl rfl (wo := (gX G uX xX0 (uC 0) xX2 (uM 0) xX4 xX7 xX8 xX9 xX10 xX11 xX12 xX13 (kq aU_14) iX_13 ++ gM G uM (uC 0) iM sM_18 ++ gU G aU_14 (uC 0) iU_15 sU_16 ++ gC G uC iC tC sC)) (by simp only [List.flatten_cons, List.flatten_nil, List.append_assoc, List.append_nil]) 0 rfl rfl rfl hl.1 (lv_room (Nat.le_of_ble_eq_true rfl)) ⟨Nat.le_of_ble_eq_true rfl, Nat.le_of_ble_eq_true rfl⟩ ⟨Nat.zero_le _, Nat.zero_le _⟩ dX10_tell_62 (fun H locs hP hD hS => ?_)
          refine lv_iload X.hx X.hb dX10_tell_65 (lv_at hl 0 rfl) ?_
          cases hf
          subst hQ
          exact r_iret X hP hD hS dX10_tell_67
      · replace hf := if_t hf hc_9
        refine lv_iconst (v := (-1)) X.hx X.hb dX10_tell_33 (by decide) ?_
        cases hf
        subst hQ
        exact r_iret X hP hD hS dX10_tell_34

def f_X10_days (N : Nat) (iX : Nat → Int32) (iM : Nat → Int32) (sM : Nat → Nat → Int32) (aU : Nat → Nat → Nat) (iU : Nat → Nat → Int32) (sU : Nat → Nat → Nat → Int32) (iC : Nat → Int32) (tC : Nat → Nat → Int64) (sC : Nat → Nat → Int32) (p1 : Int32) : Option (Int32 × (Nat → Int32) × (Nat → Int32) × (Nat → Nat → Int32) × (Nat → Nat → Nat) × (Nat → Nat → Int32) × (Nat → Nat → Nat → Int32)) :=
  (if p1 < 1 then some ((-1), iX, iM, sM, aU, iU, sU) else (if p1 ≤ 60 then (if (iM 1) < 400 then bd (f_X10_keepU N iX iM sM aU iU sU) (fun (iX_4, aU_5, iU_6, sU_7) => bd (f_X4_passDays N iM sM iC tC sC p1) (fun (r_9, iM_10, sM_11) => some (r_9, iX_4, iM_10, sM_11, aU_5, iU_6, sU_7))) else some (0, iX, iM, sM, aU, iU, sU)) else some ((-1), iX, iM, sM, aU, iU, sU)))
set_option maxHeartbeats 4000000 in
set_option maxRecDepth 100000 in
theorem c_X10_days (l : Launch) (G : GT) (N : Nat) (uX uM uC : Nat → Nat) (xX0 xX2 xX4 xX7 xX8 xX9 xX10 xX11 xX12 xX13 : Nat) (iX : Nat → Int32) (iM : Nat → Int32) (sM : Nat → Nat → Int32) (aU : Nat → Nat → Nat) (iU : Nat → Nat → Int32) (sU : Nat → Nat → Nat → Int32) (iC : Nat → Int32) (tC : Nat → Nat → Int64) (sC : Nat → Nat → Int32) (p1 : Int32) {r : Int32} {iX' : Nat → Int32} {iM' : Nat → Int32} {sM' : Nat → Nat → Int32} {aU' : Nat → Nat → Nat} {iU' : Nat → Nat → Int32} {sU' : Nat → Nat → Nat → Int32} (hf : f_X10_days N iX iM sM aU iU sU iC tC sC p1 = some (r, iX', iM', sM', aU', iU', sU')) : CI l G yX10_days cX10_days 2 .int 5 [.ref (uX 0), .int p1] (gX G uX xX0 (uC 0) xX2 (uM 0) xX4 xX7 xX8 xX9 xX10 xX11 xX12 xX13 (kq aU) iX ++ gM G uM (uC 0) iM sM ++ gU G aU (uC 0) iU sU ++ gC G uC iC tC sC) r (gX G uX xX0 (uC 0) xX2 (uM 0) xX4 xX7 xX8 xX9 xX10 xX11 xX12 xX13 (kq aU') iX' ++ gM G uM (uC 0) iM' sM' ++ gU G aU' (uC 0) iU' sU' ++ gC G uC iC tC sC) := by
  refine CI.of (by decide) (Nat.le_of_ble_eq_true rfl) ?_
  intro p e s m args below meth c A X hA hP hD hS ls hl
  have hl : lv_has ls 2 [(0, .ref (uX 0)), (1, .int p1)] := hl
  generalize hQ : MQ below (QI G A r (gX G uX xX0 (uC 0) xX2 (uM 0) xX4 xX7 xX8 xX9 xX10 xX11 xX12 xX13 (kq aU') iX' ++ gM G uM (uC 0) iM' sM' ++ gU G aU' (uC 0) iU' sU' ++ gC G uC iC tC sC)) args s 0 0 A = QQ
  unfold f_X10_days at hf
  refine lv_iload_n X.hx X.hb dX10_days_0 rfl (lv_at hl 1 rfl) ?_
  refine lv_iconst (v := 1) X.hx X.hb dX10_days_1 (by decide) ?_
  refine lv_icmp_lt (tgt := 11) X.hx X.hb dX10_days_2 (by decide) (fun hc_1 => ?_) (fun hc_1 => ?_)
  · replace hf := if_t hf hc_1
    refine lv_iconst (v := (-1)) X.hx X.hb dX10_days_11 (by decide) ?_
    cases hf
    subst hQ
    exact r_iret X hP hD hS dX10_days_12
  · replace hf := if_f hf hc_1
    refine lv_iload_n X.hx X.hb dX10_days_5 rfl (lv_at hl 1 rfl) ?_
    refine lv_bipush (v := 60) X.hx X.hb dX10_days_6 (by decide) ?_
    refine lv_icmp_le (tgt := 13) X.hx X.hb dX10_days_8 (by decide) (fun hc_2 => ?_) (fun hc_2 => ?_)
    · replace hf := if_t hf hc_2
      refine lv_aload_n X.hx X.hb dX10_days_13 rfl (lv_at hl 0 rfl) ?_
      refine gf_X10_37 X hP 0 (get_blk (L := ([] : va_W)) (g := (gX G uX xX0 (uC 0) xX2 (uM 0) xX4 xX7 xX8 xX9 xX10 xX11 xX12 xX13 (kq aU) iX)) (R := (gM G uM (uC 0) iM sM ++ gU G aU (uC 0) iU sU ++ gC G uC iC tC sC)) (k := 0) (by simp only [List.append_assoc, List.append_nil, List.nil_append]) rfl rfl) (v := .ref (uM 0)) rfl dX10_days_14 ?_
      refine gf_X10_193 X hP 2 (get_blk (L := (gX G uX xX0 (uC 0) xX2 (uM 0) xX4 xX7 xX8 xX9 xX10 xX11 xX12 xX13 (kq aU) iX)) (g := (gM G uM (uC 0) iM sM)) (R := (gU G aU (uC 0) iU sU ++ gC G uC iC tC sC)) (k := 0) (by simp only [List.append_assoc, List.append_nil, List.nil_append]) rfl rfl) (v := .int (iM 1)) rfl dX10_days_17 ?_
      refine lv_sipush (v := 400) X.hx X.hb dX10_days_20 (by decide) ?_
      refine lv_icmp_lt (tgt := 28) X.hx X.hb dX10_days_23 (by decide) (fun hc_3 => ?_) (fun hc_3 => ?_)
      · replace hf := if_t hf hc_3
        refine lv_aload_n X.hx X.hb dX10_days_28 rfl (lv_at hl 0 rfl) ?_
        obtain ⟨⟨iX_4, aU_5, iU_6, sU_7⟩, hc_8, hf⟩ := bd_i hf
        refine r_bvv ([] : va_W) (gC G uC iC tC sC) (As := []) (rest := []) X sm_X10_215 (c_X10_keepU l G N uX uM xX0 (uC 0) xX2 xX4 xX7 xX8 xX9 xX10 xX11 xX12 xX13 (uC 0) iX iM sM aU iU sU hc_8) hP hD hS hA (by simp only [List.append_assoc, List.append_nil, List.nil_append]) (wo := (gX G uX xX0 (uC 0) xX2 (uM 0) xX4 xX7 xX8 xX9 xX10 xX11 xX12 xX13 (kq aU_5) iX_4 ++ gM G uM (uC 0) iM sM ++ gU G aU_5 (uC 0) iU_6 sU_7 ++ gC G uC iC tC sC)) (by simp only [List.append_assoc, List.append_nil, List.nil_append]) 0 rfl rfl rfl hl.1 (lv_room (Nat.le_of_ble_eq_true rfl)) ⟨Nat.le_of_ble_eq_true rfl, Nat.le_of_ble_eq_true rfl⟩ ⟨Nat.zero_le _, Nat.zero_le _⟩ dX10_days_29 (fun H locs hP hD hS => ?_)
        refine lv_aload_n X.hx X.hb dX10_days_32 rfl (lv_at hl 0 rfl) ?_
        refine gf_X10_37 X hP 0 (get_blk (L := ([] : va_W)) (g := (gX G uX xX0 (uC 0) xX2 (uM 0) xX4 xX7 xX8 xX9 xX10 xX11 xX12 xX13 (kq aU_5) iX_4)) (R := (gM G uM (uC 0) iM sM ++ gU G aU_5 (uC 0) iU_6 sU_7 ++ gC G uC iC tC sC)) (k := 0) (by simp only [List.append_assoc, List.append_nil, List.nil_append]) rfl rfl) (v := .ref (uM 0)) rfl dX10_days_33 ?_
        refine lv_iload_n X.hx X.hb dX10_days_36 rfl (lv_at hl 1 rfl) ?_
        obtain ⟨⟨r_9, iM_10, sM_11⟩, hc_12, hf⟩ := bd_i hf
        refine r_pvi [gX G uX xX0 (uC 0) xX2 (uM 0) xX4 xX7 xX8 xX9 xX10 xX11 xX12 xX13 (kq aU_5) iX_4, gM G uM (uC 0) iM sM, gU G aU_5 (uC 0) iU_6 sU_7, gC G uC iC tC sC] [gX G uX xX0 (uC 0) xX2 (uM 0) xX4 xX7 xX8 xX9 xX10 xX11 xX12 xX13 (kq aU_5) iX_4, gM G uM (uC 0) iM_10 sM_11, gU G aU_5 (uC 0) iU_6 sU_7, gC G uC iC tC sC] [gM G uM (uC 0) iM sM, gC G uC iC tC sC] [gM G uM (uC 0) iM_10 sM_11, gC G uC iC tC sC] [gX G uX xX0 (uC 0) xX2 (uM 0) xX4 xX7 xX8 xX9 xX10 xX11 xX12 xX13 (kq aU_5) iX_4, gU G aU_5 (uC 0) iU_6 sU_7] 4 [1, 3] [0, 2] (As := [.int p1]) (rest := []) X sm_X10_241 (c_X4_passDays l G N uM uC iM sM iC tC sC p1 hc_12) hP hD hS hA rfl rfl (by decide) (by simp only [List.flatten_cons, List.flatten_nil, List.append_assoc, List.append_nil]) rfl (by simp only [List.flatten_cons, List.flatten_nil, List.append_assoc, List.append_nil]) rfl (by simp only [List.flatten_cons, List.flatten_nil, List.append_assoc, List.append_nil]) rfl rfl (wo := (gX G uX xX0 (uC 0) xX2 (uM 0) xX4 xX7 xX8 xX9 xX10 xX11 xX12 xX13 (kq aU_5) iX_4 ++ gM G uM (uC 0) iM_10 sM_11 ++ gU G aU_5 (uC 0) iU_6 sU_7 ++ gC G uC iC tC sC)) (by simp only [List.flatten_cons, List.flatten_nil, List.append_assoc, List.append_nil]) 0 rfl rfl rfl hl.1 (lv_room (Nat.le_of_ble_eq_true rfl)) ⟨Nat.le_of_ble_eq_true rfl, Nat.le_of_ble_eq_true rfl⟩ ⟨Nat.zero_le _, Nat.zero_le _⟩ dX10_days_37 (fun H locs hP hD hS => ?_)
        cases hf
        subst hQ
        exact r_iret X hP hD hS dX10_days_40
      · replace hf := if_f hf hc_3
        refine lv_iconst (v := 0) X.hx X.hb dX10_days_26 (by decide) ?_
        cases hf
        subst hQ
        exact r_iret X hP hD hS dX10_days_27
    · replace hf := if_f hf hc_2
      refine lv_iconst (v := (-1)) X.hx X.hb dX10_days_11 (by decide) ?_
      cases hf
      subst hQ
      exact r_iret X hP hD hS dX10_days_12

def f_X10_drawn (N : Nat) (iX : Nat → Int32) (iM : Nat → Int32) (sM : Nat → Nat → Int32) (aU : Nat → Nat → Nat) (iU : Nat → Nat → Int32) (sU : Nat → Nat → Nat → Int32) (iC : Nat → Int32) (tC : Nat → Nat → Int64) (sC : Nat → Nat → Int32) (p1 : Int32) (p2 : Int32) : Option (Int32 × (Nat → Int32) × (Nat → Int32) × (Nat → Nat → Int32) × (Nat → Nat → Nat) × (Nat → Nat → Int32) × (Nat → Nat → Nat → Int32)) :=
  (if p1 < 1 then some ((-1), iX, iM, sM, aU, iU, sU) else (if p1 ≤ 60 then (if (iM 1) < 400 then bd (f_X10_keepU N iX iM sM aU iU sU) (fun (iX_4, aU_5, iU_6, sU_7) => bd (f_X4_passDrawnDays N iM sM iC tC sC p1 p2) (fun (r_9, iM_10, sM_11) => some (r_9, iX_4, iM_10, sM_11, aU_5, iU_6, sU_7))) else some (0, iX, iM, sM, aU, iU, sU)) else some ((-1), iX, iM, sM, aU, iU, sU)))
set_option maxHeartbeats 4000000 in
set_option maxRecDepth 100000 in
theorem c_X10_drawn (l : Launch) (G : GT) (N : Nat) (uX uM uC : Nat → Nat) (xX0 xX2 xX4 xX7 xX8 xX9 xX10 xX11 xX12 xX13 : Nat) (iX : Nat → Int32) (iM : Nat → Int32) (sM : Nat → Nat → Int32) (aU : Nat → Nat → Nat) (iU : Nat → Nat → Int32) (sU : Nat → Nat → Nat → Int32) (iC : Nat → Int32) (tC : Nat → Nat → Int64) (sC : Nat → Nat → Int32) (p1 : Int32) (p2 : Int32) {r : Int32} {iX' : Nat → Int32} {iM' : Nat → Int32} {sM' : Nat → Nat → Int32} {aU' : Nat → Nat → Nat} {iU' : Nat → Nat → Int32} {sU' : Nat → Nat → Nat → Int32} (hf : f_X10_drawn N iX iM sM aU iU sU iC tC sC p1 p2 = some (r, iX', iM', sM', aU', iU', sU')) : CI l G yX10_drawn cX10_drawn 3 .int 7 [.ref (uX 0), .int p1, .int p2] (gX G uX xX0 (uC 0) xX2 (uM 0) xX4 xX7 xX8 xX9 xX10 xX11 xX12 xX13 (kq aU) iX ++ gM G uM (uC 0) iM sM ++ gU G aU (uC 0) iU sU ++ gC G uC iC tC sC) r (gX G uX xX0 (uC 0) xX2 (uM 0) xX4 xX7 xX8 xX9 xX10 xX11 xX12 xX13 (kq aU') iX' ++ gM G uM (uC 0) iM' sM' ++ gU G aU' (uC 0) iU' sU' ++ gC G uC iC tC sC) := by
  refine CI.of (by decide) (Nat.le_of_ble_eq_true rfl) ?_
  intro p e s m args below meth c A X hA hP hD hS ls hl
  have hl : lv_has ls 3 [(0, .ref (uX 0)), (1, .int p1), (2, .int p2)] := hl
  generalize hQ : MQ below (QI G A r (gX G uX xX0 (uC 0) xX2 (uM 0) xX4 xX7 xX8 xX9 xX10 xX11 xX12 xX13 (kq aU') iX' ++ gM G uM (uC 0) iM' sM' ++ gU G aU' (uC 0) iU' sU' ++ gC G uC iC tC sC)) args s 0 0 A = QQ
  unfold f_X10_drawn at hf
  refine lv_iload_n X.hx X.hb dX10_drawn_0 rfl (lv_at hl 1 rfl) ?_
  refine lv_iconst (v := 1) X.hx X.hb dX10_drawn_1 (by decide) ?_
  refine lv_icmp_lt (tgt := 11) X.hx X.hb dX10_drawn_2 (by decide) (fun hc_1 => ?_) (fun hc_1 => ?_)
  · replace hf := if_t hf hc_1
    refine lv_iconst (v := (-1)) X.hx X.hb dX10_drawn_11 (by decide) ?_
    cases hf
    subst hQ
    exact r_iret X hP hD hS dX10_drawn_12
  · replace hf := if_f hf hc_1
    refine lv_iload_n X.hx X.hb dX10_drawn_5 rfl (lv_at hl 1 rfl) ?_
    refine lv_bipush (v := 60) X.hx X.hb dX10_drawn_6 (by decide) ?_
    refine lv_icmp_le (tgt := 13) X.hx X.hb dX10_drawn_8 (by decide) (fun hc_2 => ?_) (fun hc_2 => ?_)
    · replace hf := if_t hf hc_2
      refine lv_aload_n X.hx X.hb dX10_drawn_13 rfl (lv_at hl 0 rfl) ?_
      refine gf_X10_37 X hP 0 (get_blk (L := ([] : va_W)) (g := (gX G uX xX0 (uC 0) xX2 (uM 0) xX4 xX7 xX8 xX9 xX10 xX11 xX12 xX13 (kq aU) iX)) (R := (gM G uM (uC 0) iM sM ++ gU G aU (uC 0) iU sU ++ gC G uC iC tC sC)) (k := 0) (by simp only [List.append_assoc, List.append_nil, List.nil_append]) rfl rfl) (v := .ref (uM 0)) rfl dX10_drawn_14 ?_
      refine gf_X10_193 X hP 2 (get_blk (L := (gX G uX xX0 (uC 0) xX2 (uM 0) xX4 xX7 xX8 xX9 xX10 xX11 xX12 xX13 (kq aU) iX)) (g := (gM G uM (uC 0) iM sM)) (R := (gU G aU (uC 0) iU sU ++ gC G uC iC tC sC)) (k := 0) (by simp only [List.append_assoc, List.append_nil, List.nil_append]) rfl rfl) (v := .int (iM 1)) rfl dX10_drawn_17 ?_
      refine lv_sipush (v := 400) X.hx X.hb dX10_drawn_20 (by decide) ?_
      refine lv_icmp_lt (tgt := 28) X.hx X.hb dX10_drawn_23 (by decide) (fun hc_3 => ?_) (fun hc_3 => ?_)
      · replace hf := if_t hf hc_3
        refine lv_aload_n X.hx X.hb dX10_drawn_28 rfl (lv_at hl 0 rfl) ?_
        obtain ⟨⟨iX_4, aU_5, iU_6, sU_7⟩, hc_8, hf⟩ := bd_i hf
        refine r_bvv ([] : va_W) (gC G uC iC tC sC) (As := []) (rest := []) X sm_X10_215 (c_X10_keepU l G N uX uM xX0 (uC 0) xX2 xX4 xX7 xX8 xX9 xX10 xX11 xX12 xX13 (uC 0) iX iM sM aU iU sU hc_8) hP hD hS hA (by simp only [List.append_assoc, List.append_nil, List.nil_append]) (wo := (gX G uX xX0 (uC 0) xX2 (uM 0) xX4 xX7 xX8 xX9 xX10 xX11 xX12 xX13 (kq aU_5) iX_4 ++ gM G uM (uC 0) iM sM ++ gU G aU_5 (uC 0) iU_6 sU_7 ++ gC G uC iC tC sC)) (by simp only [List.append_assoc, List.append_nil, List.nil_append]) 0 rfl rfl rfl hl.1 (lv_room (Nat.le_of_ble_eq_true rfl)) ⟨Nat.le_of_ble_eq_true rfl, Nat.le_of_ble_eq_true rfl⟩ ⟨Nat.zero_le _, Nat.zero_le _⟩ dX10_drawn_29 (fun H locs hP hD hS => ?_)
        refine lv_aload_n X.hx X.hb dX10_drawn_32 rfl (lv_at hl 0 rfl) ?_
        refine gf_X10_37 X hP 0 (get_blk (L := ([] : va_W)) (g := (gX G uX xX0 (uC 0) xX2 (uM 0) xX4 xX7 xX8 xX9 xX10 xX11 xX12 xX13 (kq aU_5) iX_4)) (R := (gM G uM (uC 0) iM sM ++ gU G aU_5 (uC 0) iU_6 sU_7 ++ gC G uC iC tC sC)) (k := 0) (by simp only [List.append_assoc, List.append_nil, List.nil_append]) rfl rfl) (v := .ref (uM 0)) rfl dX10_drawn_33 ?_
        refine lv_iload_n X.hx X.hb dX10_drawn_36 rfl (lv_at hl 1 rfl) ?_
        refine lv_iload_n X.hx X.hb dX10_drawn_37 rfl (lv_at hl 2 rfl) ?_
        obtain ⟨⟨r_9, iM_10, sM_11⟩, hc_12, hf⟩ := bd_i hf
        refine r_pvi [gX G uX xX0 (uC 0) xX2 (uM 0) xX4 xX7 xX8 xX9 xX10 xX11 xX12 xX13 (kq aU_5) iX_4, gM G uM (uC 0) iM sM, gU G aU_5 (uC 0) iU_6 sU_7, gC G uC iC tC sC] [gX G uX xX0 (uC 0) xX2 (uM 0) xX4 xX7 xX8 xX9 xX10 xX11 xX12 xX13 (kq aU_5) iX_4, gM G uM (uC 0) iM_10 sM_11, gU G aU_5 (uC 0) iU_6 sU_7, gC G uC iC tC sC] [gM G uM (uC 0) iM sM, gC G uC iC tC sC] [gM G uM (uC 0) iM_10 sM_11, gC G uC iC tC sC] [gX G uX xX0 (uC 0) xX2 (uM 0) xX4 xX7 xX8 xX9 xX10 xX11 xX12 xX13 (kq aU_5) iX_4, gU G aU_5 (uC 0) iU_6 sU_7] 4 [1, 3] [0, 2] (As := [.int p1, .int p2]) (rest := []) X sm_X10_295 (c_X4_passDrawnDays l G N uM uC iM sM iC tC sC p1 p2 hc_12) hP hD hS hA rfl rfl (by decide) (by simp only [List.flatten_cons, List.flatten_nil, List.append_assoc, List.append_nil]) rfl (by simp only [List.flatten_cons, List.flatten_nil, List.append_assoc, List.append_nil]) rfl (by simp only [List.flatten_cons, List.flatten_nil, List.append_assoc, List.append_nil]) rfl rfl (wo := (gX G uX xX0 (uC 0) xX2 (uM 0) xX4 xX7 xX8 xX9 xX10 xX11 xX12 xX13 (kq aU_5) iX_4 ++ gM G uM (uC 0) iM_10 sM_11 ++ gU G aU_5 (uC 0) iU_6 sU_7 ++ gC G uC iC tC sC)) (by simp only [List.flatten_cons, List.flatten_nil, List.append_assoc, List.append_nil]) 0 rfl rfl rfl hl.1 (lv_room (Nat.le_of_ble_eq_true rfl)) ⟨Nat.le_of_ble_eq_true rfl, Nat.le_of_ble_eq_true rfl⟩ ⟨Nat.zero_le _, Nat.zero_le _⟩ dX10_drawn_38 (fun H locs hP hD hS => ?_)
        cases hf
        subst hQ
        exact r_iret X hP hD hS dX10_drawn_41
      · replace hf := if_f hf hc_3
        refine lv_iconst (v := 0) X.hx X.hb dX10_drawn_26 (by decide) ?_
        cases hf
        subst hQ
        exact r_iret X hP hD hS dX10_drawn_27
    · replace hf := if_f hf hc_2
      refine lv_iconst (v := (-1)) X.hx X.hb dX10_drawn_11 (by decide) ?_
      cases hf
      subst hQ
      exact r_iret X hP hD hS dX10_drawn_12

def f_X10_book (N : Nat) (iX : Nat → Int32) (iM : Nat → Int32) (sM : Nat → Nat → Int32) (aU : Nat → Nat → Nat) (iU : Nat → Nat → Int32) (sU : Nat → Nat → Nat → Int32) (iC : Nat → Int32) (tC : Nat → Nat → Int64) (sC : Nat → Nat → Int32) (iM2 : Nat → Int32) (sM2 : Nat → Nat → Int32) (sT : Nat → Nat → Int32) (iT : Nat → Int32) (jT : Nat → Int64) (sB : Nat → Nat → Int32) (iB : Nat → Int32) (p1 : Int32) : Option (Int32 × (Nat → Int32) × (Nat → Int32) × (Nat → Nat → Int32) × (Nat → Nat → Nat) × (Nat → Nat → Int32) × (Nat → Nat → Nat → Int32) × (Nat → Int32) × (Nat → Nat → Int32) × (Nat → Int32) × (Nat → Int64) × (Nat → Nat → Int32) × (Nat → Int32)) :=
  jn (fun (z : Unit) => match z with | () => bd (f_X0_readText N sB iB sT iT jT iC tC sC) (fun (r_4, sB_5, iB_6, iT_7, jT_8) => (if r_4 = 0 then some (((-2 : Int32) - (iT_7 12)), iX, iM, sM, aU, iU, sU, iM2, sM2, (va_up iT_7 1 0), jT_8, sB_5, iB_6) else bd (f_X4_copyFrom N iM2 sM2 iM sM) (fun (iM2_11, sM2_12) => bd (f_X0_judge N sB_5 iB_6 iM2_11 sM2_12 iC tC sC) (fun (iB_14, iM2_15, sM2_16) => jn (fun (z : (Nat → Int32) × (Nat → Int32) × (Nat → Nat → Int32) × (Nat → Nat → Nat) × (Nat → Nat → Int32) × (Nat → Nat → Nat → Int32)) => match z with | (iX_21, iM_22, sM_23, aU_24, iU_25, sU_26) => (if (iB_14 8) = 0 then some ((-1), iX_21, iM_22, sM_23, aU_24, iU_25, sU_26, iM2_15, sM2_16, (va_up iT_7 1 0), jT_8, sB_5, iB_14) else some ((iB_14 9), iX_21, iM_22, sM_23, aU_24, iU_25, sU_26, iM2_15, sM2_16, (va_up iT_7 1 0), jT_8, sB_5, iB_14))) (fun K_18 => (if p1 = 1 then (if (iB_14 9) ≤ 0 then K_18 (iX, iM, sM, aU, iU, sU) else bd (f_X10_keepU N iX iM sM aU iU sU) (fun (iX_30, aU_31, iU_32, sU_33) => bd (f_X4_copyFrom N iM sM iM2_15 sM2_16) (fun (iM_35, sM_36) => K_18 (iX_30, iM_35, sM_36, aU_31, iU_32, sU_33)))) else K_18 (iX, iM, sM, aU, iU, sU)))))))) (fun K_1 => (if p1 = 0 then K_1 () else (if p1 = 1 then K_1 () else some ((-1000), iX, iM, sM, aU, iU, sU, iM2, sM2, iT, jT, sB, iB))))
set_option maxHeartbeats 4000000 in
set_option maxRecDepth 100000 in
theorem c_X10_book (l : Launch) (G : GT) (N : Nat) (uX uM uC uM2 uT uB : Nat → Nat) (xX2 xX7 xX8 xX10 xX11 xX12 xX13 : Nat) (iX : Nat → Int32) (iM : Nat → Int32) (sM : Nat → Nat → Int32) (aU : Nat → Nat → Nat) (iU : Nat → Nat → Int32) (sU : Nat → Nat → Nat → Int32) (iC : Nat → Int32) (tC : Nat → Nat → Int64) (sC : Nat → Nat → Int32) (iM2 : Nat → Int32) (sM2 : Nat → Nat → Int32) (sT : Nat → Nat → Int32) (iT : Nat → Int32) (jT : Nat → Int64) (sB : Nat → Nat → Int32) (iB : Nat → Int32) (p1 : Int32) {r : Int32} {iX' : Nat → Int32} {iM' : Nat → Int32} {sM' : Nat → Nat → Int32} {aU' : Nat → Nat → Nat} {iU' : Nat → Nat → Int32} {sU' : Nat → Nat → Nat → Int32} {iM2' : Nat → Int32} {sM2' : Nat → Nat → Int32} {iT' : Nat → Int32} {jT' : Nat → Int64} {sB' : Nat → Nat → Int32} {iB' : Nat → Int32} (hf : f_X10_book N iX iM sM aU iU sU iC tC sC iM2 sM2 sT iT jT sB iB p1 = some (r, iX', iM', sM', aU', iU', sU', iM2', sM2', iT', jT', sB', iB')) : CI l G yX10_book cX10_book 3 .int 8 [.ref (uX 0), .int p1] (gX G uX (uT 0) (uC 0) xX2 (uM 0) (uM2 0) xX7 xX8 (uB 0) xX10 xX11 xX12 xX13 (kq aU) iX ++ gM G uM (uC 0) iM sM ++ gU G aU (uC 0) iU sU ++ gC G uC iC tC sC ++ gM G uM2 (uC 0) iM2 sM2 ++ gT G uT sT iT jT ++ gB G uB (uT 0) (uC 0) sB iB) r (gX G uX (uT 0) (uC 0) xX2 (uM 0) (uM2 0) xX7 xX8 (uB 0) xX10 xX11 xX12 xX13 (kq aU') iX' ++ gM G uM (uC 0) iM' sM' ++ gU G aU' (uC 0) iU' sU' ++ gC G uC iC tC sC ++ gM G uM2 (uC 0) iM2' sM2' ++ gT G uT sT iT' jT' ++ gB G uB (uT 0) (uC 0) sB' iB') := by
  refine CI.of (by decide) (Nat.le_of_ble_eq_true rfl) ?_
  intro p e s m args below meth c A X hA hP hD hS ls hl
  have hl : lv_has ls 3 [(0, .ref (uX 0)), (1, .int p1)] := hl
  generalize hQ : MQ below (QI G A r (gX G uX (uT 0) (uC 0) xX2 (uM 0) (uM2 0) xX7 xX8 (uB 0) xX10 xX11 xX12 xX13 (kq aU') iX' ++ gM G uM (uC 0) iM' sM' ++ gU G aU' (uC 0) iU' sU' ++ gC G uC iC tC sC ++ gM G uM2 (uC 0) iM2' sM2' ++ gT G uT sT iT' jT' ++ gB G uB (uT 0) (uC 0) sB' iB')) args s 0 0 A = QQ
  unfold f_X10_book at hf
  refine lv_iload_n X.hx X.hb dX10_book_0 rfl (lv_at hl 1 rfl) ?_
  obtain ⟨K_1, eK_3, hf⟩ := jn_i hf
  have hj_2 : ∀ (H : Heap) (locs : List Loc) (ls : Array Slot), K_1 () = some (r, iX', iM', sM', aU', iU', sU', iM2', sM2', iT', jT', sB', iB') → va_P G.1 vwCl (gX G uX (uT 0) (uC 0) xX2 (uM 0) (uM2 0) xX7 xX8 (uB 0) xX10 xX11 xX12 xX13 (kq aU) iX ++ gM G uM (uC 0) iM sM ++ gU G aU (uC 0) iU sU ++ gC G uC iC tC sC ++ gM G uM2 (uC 0) iM2 sM2 ++ gT G uT sT iT jT ++ gB G uB (uT 0) (uC 0) sB iB) H → va_D A (gX G uX (uT 0) (uC 0) xX2 (uM 0) (uM2 0) xX7 xX8 (uB 0) xX10 xX11 xX12 xX13 (kq aU) iX ++ gM G uM (uC 0) iM sM ++ gU G aU (uC 0) iU sU ++ gC G uC iC tC sC ++ gM G uM2 (uC 0) iM2 sM2 ++ gT G uT sT iT jT ++ gB G uB (uT 0) (uC 0) sB iB) → va_S A s.heap H locs → lv_has ls 3 [(0, .ref (uX 0)), (1, .int p1)] → W p l e (RM 8) s m args below meth c H locs 0 0 QQ (F0 m 13 ls []) := by
    intro  H locs ls hf hP hD hS hl
    rw [eK_3] at hf
    try dsimp only at hf
    refine lv_aload_n X.hx X.hb dX10_book_13 rfl (lv_at hl 0 rfl) ?_
    refine gf_X10_73 X hP 0 (get_blk (L := ([] : va_W)) (g := (gX G uX (uT 0) (uC 0) xX2 (uM 0) (uM2 0) xX7 xX8 (uB 0) xX10 xX11 xX12 xX13 (kq aU) iX)) (R := (gM G uM (uC 0) iM sM ++ gU G aU (uC 0) iU sU ++ gC G uC iC tC sC ++ gM G uM2 (uC 0) iM2 sM2 ++ gT G uT sT iT jT ++ gB G uB (uT 0) (uC 0) sB iB)) (k := 0) (by simp only [List.append_assoc, List.append_nil, List.nil_append]) rfl rfl) (v := .ref (uB 0)) rfl dX10_book_14 ?_
    obtain ⟨⟨r_4, sB_5, iB_6, iT_7, jT_8⟩, hc_9, hf⟩ := bd_i hf
    refine r_pvi [gX G uX (uT 0) (uC 0) xX2 (uM 0) (uM2 0) xX7 xX8 (uB 0) xX10 xX11 xX12 xX13 (kq aU) iX, gM G uM (uC 0) iM sM, gU G aU (uC 0) iU sU, gC G uC iC tC sC, gM G uM2 (uC 0) iM2 sM2, gT G uT sT iT jT, gB G uB (uT 0) (uC 0) sB iB] [gX G uX (uT 0) (uC 0) xX2 (uM 0) (uM2 0) xX7 xX8 (uB 0) xX10 xX11 xX12 xX13 (kq aU) iX, gM G uM (uC 0) iM sM, gU G aU (uC 0) iU sU, gC G uC iC tC sC, gM G uM2 (uC 0) iM2 sM2, gT G uT sT iT_7 jT_8, gB G uB (uT 0) (uC 0) sB_5 iB_6] [gB G uB (uT 0) (uC 0) sB iB, gT G uT sT iT jT, gC G uC iC tC sC] [gB G uB (uT 0) (uC 0) sB_5 iB_6, gT G uT sT iT_7 jT_8, gC G uC iC tC sC] [gX G uX (uT 0) (uC 0) xX2 (uM 0) (uM2 0) xX7 xX8 (uB 0) xX10 xX11 xX12 xX13 (kq aU) iX, gM G uM (uC 0) iM sM, gU G aU (uC 0) iU sU, gM G uM2 (uC 0) iM2 sM2] 7 [6, 5, 3] [0, 1, 2, 4] (As := []) (rest := []) X sm_X10_298 (c_X0_readText l G N uB uT uC sB iB sT iT jT iC tC sC hc_9) hP hD hS hA rfl rfl (by decide) (by simp only [List.flatten_cons, List.flatten_nil, List.append_assoc, List.append_nil]) rfl (by simp only [List.flatten_cons, List.flatten_nil, List.append_assoc, List.append_nil]) rfl (by simp only [List.flatten_cons, List.flatten_nil, List.append_assoc, List.append_nil]) rfl rfl (wo := (gX G uX (uT 0) (uC 0) xX2 (uM 0) (uM2 0) xX7 xX8 (uB 0) xX10 xX11 xX12 xX13 (kq aU) iX ++ gM G uM (uC 0) iM sM ++ gU G aU (uC 0) iU sU ++ gC G uC iC tC sC ++ gM G uM2 (uC 0) iM2 sM2 ++ gT G uT sT iT_7 jT_8 ++ gB G uB (uT 0) (uC 0) sB_5 iB_6)) (by simp only [List.flatten_cons, List.flatten_nil, List.append_assoc, List.append_nil]) 0 rfl rfl rfl hl.1 (lv_room (Nat.le_of_ble_eq_true rfl)) ⟨Nat.le_of_ble_eq_true rfl, Nat.le_of_ble_eq_true rfl⟩ ⟨Nat.zero_le _, Nat.zero_le _⟩ dX10_book_17 (fun H locs hP hD hS => ?_)
    refine lv_istore_n (lv' := [(2, .int r_4), (0, .ref (uX 0)), (1, .int p1)]) X.hx X.hb dX10_book_20 rfl hl (by decide) rfl (fun ls hl => ?_)
    refine lv_aload_n X.hx X.hb dX10_book_21 rfl (lv_at hl 1 rfl) ?_
    refine gf_X10_10 X hP 0 (get_blk (L := ([] : va_W)) (g := (gX G uX (uT 0) (uC 0) xX2 (uM 0) (uM2 0) xX7 xX8 (uB 0) xX10 xX11 xX12 xX13 (kq aU) iX)) (R := (gM G uM (uC 0) iM sM ++ gU G aU (uC 0) iU sU ++ gC G uC iC tC sC ++ gM G uM2 (uC 0) iM2 sM2 ++ gT G uT sT iT_7 jT_8 ++ gB G uB (uT 0) (uC 0) sB_5 iB_6)) (k := 0) (by simp only [List.append_assoc, List.append_nil, List.nil_append]) rfl rfl) (v := .ref (uT 0)) rfl dX10_book_22 ?_
    refine lv_iconst (v := 0) X.hx X.hb dX10_book_25 (by decide) ?_
    refine pf_X10_112 X hP hD hS 80 (get_blk (L := (gX G uX (uT 0) (uC 0) xX2 (uM 0) (uM2 0) xX7 xX8 (uB 0) xX10 xX11 xX12 xX13 (kq aU) iX ++ gM G uM (uC 0) iM sM ++ gU G aU (uC 0) iU sU ++ gC G uC iC tC sC ++ gM G uM2 (uC 0) iM2 sM2)) (g := (gT G uT sT iT_7 jT_8)) (R := (gB G uB (uT 0) (uC 0) sB_5 iB_6)) (k := 0) (by simp only [List.append_assoc, List.append_nil, List.nil_append]) rfl rfl) rfl rfl (Nat.le_of_ble_eq_true rfl) (wo := (gX G uX (uT 0) (uC 0) xX2 (uM 0) (uM2 0) xX7 xX8 (uB 0) xX10 xX11 xX12 xX13 (kq aU) iX ++ gM G uM (uC 0) iM sM ++ gU G aU (uC 0) iU sU ++ gC G uC iC tC sC ++ gM G uM2 (uC 0) iM2 sM2 ++ gT G uT sT (va_up iT_7 1 0) jT_8 ++ gB G uB (uT 0) (uC 0) sB_5 iB_6)) (set_blk (L := (gX G uX (uT 0) (uC 0) xX2 (uM 0) (uM2 0) xX7 xX8 (uB 0) xX10 xX11 xX12 xX13 (kq aU) iX ++ gM G uM (uC 0) iM sM ++ gU G aU (uC 0) iU sU ++ gC G uC iC tC sC ++ gM G uM2 (uC 0) iM2 sM2)) (g := (gT G uT sT iT_7 jT_8)) (R := (gB G uB (uT 0) (uC 0) sB_5 iB_6)) (g' := (gT G uT sT (va_up iT_7 1 0) jT_8)) (k := 0) (by simp only [List.append_assoc, List.append_nil, List.nil_append]) rfl (Nat.le_of_ble_eq_true rfl) rfl (by simp only [List.append_assoc, List.append_nil, List.nil_append])) dX10_book_26 (fun H locs hP hD hS => ?_)
    refine lv_iload_n X.hx X.hb dX10_book_29 rfl (lv_at hl 0 rfl) ?_
    refine lv_if_ne (tgt := 44) X.hx X.hb dX10_book_30 (by decide) (fun hc_10 => ?_) (fun hc_10 => ?_)
    · replace hf := if_f hf hc_10
      refine lv_aload_n X.hx X.hb dX10_book_44 rfl (lv_at hl 1 rfl) ?_
      refine gf_X10_41 X hP 0 (get_blk (L := ([] : va_W)) (g := (gX G uX (uT 0) (uC 0) xX2 (uM 0) (uM2 0) xX7 xX8 (uB 0) xX10 xX11 xX12 xX13 (kq aU) iX)) (R := (gM G uM (uC 0) iM sM ++ gU G aU (uC 0) iU sU ++ gC G uC iC tC sC ++ gM G uM2 (uC 0) iM2 sM2 ++ gT G uT sT (va_up iT_7 1 0) jT_8 ++ gB G uB (uT 0) (uC 0) sB_5 iB_6)) (k := 0) (by simp only [List.append_assoc, List.append_nil, List.nil_append]) rfl rfl) (v := .ref (uM2 0)) rfl dX10_book_45 ?_
      refine lv_aload_n X.hx X.hb dX10_book_48 rfl (lv_at hl 1 rfl) ?_
      refine gf_X10_37 X hP 0 (get_blk (L := ([] : va_W)) (g := (gX G uX (uT 0) (uC 0) xX2 (uM 0) (uM2 0) xX7 xX8 (uB 0) xX10 xX11 xX12 xX13 (kq aU) iX)) (R := (gM G uM (uC 0) iM sM ++ gU G aU (uC 0) iU sU ++ gC G uC iC tC sC ++ gM G uM2 (uC 0) iM2 sM2 ++ gT G uT sT (va_up iT_7 1 0) jT_8 ++ gB G uB (uT 0) (uC 0) sB_5 iB_6)) (k := 0) (by simp only [List.append_assoc, List.append_nil, List.nil_append]) rfl rfl) (v := .ref (uM 0)) rfl dX10_book_49 ?_
      obtain ⟨⟨iM2_11, sM2_12⟩, hc_13, hf⟩ := bd_i hf
      refine r_pvv [gX G uX (uT 0) (uC 0) xX2 (uM 0) (uM2 0) xX7 xX8 (uB 0) xX10 xX11 xX12 xX13 (kq aU) iX, gM G uM (uC 0) iM sM, gU G aU (uC 0) iU sU, gC G uC iC tC sC, gM G uM2 (uC 0) iM2 sM2, gT G uT sT (va_up iT_7 1 0) jT_8, gB G uB (uT 0) (uC 0) sB_5 iB_6] [gX G uX (uT 0) (uC 0) xX2 (uM 0) (uM2 0) xX7 xX8 (uB 0) xX10 xX11 xX12 xX13 (kq aU) iX, gM G uM (uC 0) iM sM, gU G aU (uC 0) iU sU, gC G uC iC tC sC, gM G uM2 (uC 0) iM2_11 sM2_12, gT G uT sT (va_up iT_7 1 0) jT_8, gB G uB (uT 0) (uC 0) sB_5 iB_6] [gM G uM2 (uC 0) iM2 sM2, gM G uM (uC 0) iM sM] [gM G uM2 (uC 0) iM2_11 sM2_12, gM G uM (uC 0) iM sM] [gX G uX (uT 0) (uC 0) xX2 (uM 0) (uM2 0) xX7 xX8 (uB 0) xX10 xX11 xX12 xX13 (kq aU) iX, gU G aU (uC 0) iU sU, gC G uC iC tC sC, gT G uT sT (va_up iT_7 1 0) jT_8, gB G uB (uT 0) (uC 0) sB_5 iB_6] 7 [4, 1] [0, 2, 3, 5, 6] (As := [.ref (uM 0)]) (rest := []) X sm_X10_244 (c_X4_copyFrom l G N uM2 uM (uC 0) (uC 0) iM2 sM2 iM sM hc_13) hP hD hS hA rfl rfl (by decide) (by simp only [List.flatten_cons, List.flatten_nil, List.append_assoc, List.append_nil]) rfl (by simp only [List.flatten_cons, List.flatten_nil, List.append_assoc, List.append_nil]) rfl (by simp only [List.flatten_cons, List.flatten_nil, List.append_assoc, List.append_nil]) rfl rfl (wo := (gX G uX (uT 0) (uC 0) xX2 (uM 0) (uM2 0) xX7 xX8 (uB 0) xX10 xX11 xX12 xX13 (kq aU) iX ++ gM G uM (uC 0) iM sM ++ gU G aU (uC 0) iU sU ++ gC G uC iC tC sC ++ gM G uM2 (uC 0) iM2_11 sM2_12 ++ gT G uT sT (va_up iT_7 1 0) jT_8 ++ gB G uB (uT 0) (uC 0) sB_5 iB_6)) (by simp only [List.flatten_cons, List.flatten_nil, List.append_assoc, List.append_nil]) 0 rfl rfl rfl hl.1 (lv_room (Nat.le_of_ble_eq_true rfl)) ⟨Nat.le_of_ble_eq_true rfl, Nat.le_of_ble_eq_true rfl⟩ ⟨Nat.zero_le _, Nat.zero_le _⟩ dX10_book_52 (fun H locs hP hD hS => ?_)
      refine lv_aload_n X.hx X.hb dX10_book_55 rfl (lv_at hl 1 rfl) ?_
      refine gf_X10_73 X hP 0 (get_blk (L := ([] : va_W)) (g := (gX G uX (uT 0) (uC 0) xX2 (uM 0) (uM2 0) xX7 xX8 (uB 0) xX10 xX11 xX12 xX13 (kq aU) iX)) (R := (gM G uM (uC 0) iM sM ++ gU G aU (uC 0) iU sU ++ gC G uC iC tC sC ++ gM G uM2 (uC 0) iM2_11 sM2_12 ++ gT G uT sT (va_up iT_7 1 0) jT_8 ++ gB G uB (uT 0) (uC 0) sB_5 iB_6)) (k := 0) (by simp only [List.append_assoc, List.append_nil, List.nil_append]) rfl rfl) (v := .ref (uB 0)) rfl dX10_book_56 ?_
      refine lv_aload_n X.hx X.hb dX10_book_59 rfl (lv_at hl 1 rfl) ?_
      refine gf_X10_41 X hP 0 (get_blk (L := ([] : va_W)) (g := (gX G uX (uT 0) (uC 0) xX2 (uM 0) (uM2 0) xX7 xX8 (uB 0) xX10 xX11 xX12 xX13 (kq aU) iX)) (R := (gM G uM (uC 0) iM sM ++ gU G aU (uC 0) iU sU ++ gC G uC iC tC sC ++ gM G uM2 (uC 0) iM2_11 sM2_12 ++ gT G uT sT (va_up iT_7 1 0) jT_8 ++ gB G uB (uT 0) (uC 0) sB_5 iB_6)) (k := 0) (by simp only [List.append_assoc, List.append_nil, List.nil_append]) rfl rfl) (v := .ref (uM2 0)) rfl dX10_book_60 ?_
      obtain ⟨⟨iB_14, iM2_15, sM2_16⟩, hc_17, hf⟩ := bd_i hf
      refine r_pvv [gX G uX (uT 0) (uC 0) xX2 (uM 0) (uM2 0) xX7 xX8 (uB 0) xX10 xX11 xX12 xX13 (kq aU) iX, gM G uM (uC 0) iM sM, gU G aU (uC 0) iU sU, gC G uC iC tC sC, gM G uM2 (uC 0) iM2_11 sM2_12, gT G uT sT (va_up iT_7 1 0) jT_8, gB G uB (uT 0) (uC 0) sB_5 iB_6] [gX G uX (uT 0) (uC 0) xX2 (uM 0) (uM2 0) xX7 xX8 (uB 0) xX10 xX11 xX12 xX13 (kq aU) iX, gM G uM (uC 0) iM sM, gU G aU (uC 0) iU sU, gC G uC iC tC sC, gM G uM2 (uC 0) iM2_15 sM2_16, gT G uT sT (va_up iT_7 1 0) jT_8, gB G uB (uT 0) (uC 0) sB_5 iB_14] [gB G uB (uT 0) (uC 0) sB_5 iB_6, gM G uM2 (uC 0) iM2_11 sM2_12, gC G uC iC tC sC] [gB G uB (uT 0) (uC 0) sB_5 iB_14, gM G uM2 (uC 0) iM2_15 sM2_16, gC G uC iC tC sC] [gX G uX (uT 0) (uC 0) xX2 (uM 0) (uM2 0) xX7 xX8 (uB 0) xX10 xX11 xX12 xX13 (kq aU) iX, gM G uM (uC 0) iM sM, gU G aU (uC 0) iU sU, gT G uT sT (va_up iT_7 1 0) jT_8] 7 [6, 4, 3] [0, 1, 2, 5] (As := [.ref (uM2 0)]) (rest := []) X sm_X10_300 (c_X0_judge l G N uB uM2 uC (uT 0) sB_5 iB_6 iM2_11 sM2_12 iC tC sC hc_17) hP hD hS hA rfl rfl (by decide) (by simp only [List.flatten_cons, List.flatten_nil, List.append_assoc, List.append_nil]) rfl (by simp only [List.flatten_cons, List.flatten_nil, List.append_assoc, List.append_nil]) rfl (by simp only [List.flatten_cons, List.flatten_nil, List.append_assoc, List.append_nil]) rfl rfl (wo := (gX G uX (uT 0) (uC 0) xX2 (uM 0) (uM2 0) xX7 xX8 (uB 0) xX10 xX11 xX12 xX13 (kq aU) iX ++ gM G uM (uC 0) iM sM ++ gU G aU (uC 0) iU sU ++ gC G uC iC tC sC ++ gM G uM2 (uC 0) iM2_15 sM2_16 ++ gT G uT sT (va_up iT_7 1 0) jT_8 ++ gB G uB (uT 0) (uC 0) sB_5 iB_14)) (by simp only [List.flatten_cons, List.flatten_nil, List.append_assoc, List.append_nil]) 0 rfl rfl rfl hl.1 (lv_room (Nat.le_of_ble_eq_true rfl)) ⟨Nat.le_of_ble_eq_true rfl, Nat.le_of_ble_eq_true rfl⟩ ⟨Nat.zero_le _, Nat.zero_le _⟩ dX10_book_63 (fun H locs hP hD hS => ?_)
      refine lv_iload_n X.hx X.hb dX10_book_66 rfl (lv_at hl 2 rfl) ?_
      refine lv_iconst (v := 1) X.hx X.hb dX10_book_67 (by decide) ?_
      obtain ⟨K_18, eK_20, hf⟩ := jn_i hf
      have hj_19 : ∀ (iX_21 : Nat → Int32) (iM_22 : Nat → Int32) (sM_23 : Nat → Nat → Int32) (aU_24 : Nat → Nat → Nat) (iU_25 : Nat → Nat → Int32) (sU_26 : Nat → Nat → Nat → Int32) (H : Heap) (locs : List Loc) (ls : Array Slot), K_18 (iX_21, iM_22, sM_23, aU_24, iU_25, sU_26) = some (r, iX', iM', sM', aU', iU', sU', iM2', sM2', iT', jT', sB', iB') → va_P G.1 vwCl (gX G uX (uT 0) (uC 0) xX2 (uM 0) (uM2 0) xX7 xX8 (uB 0) xX10 xX11 xX12 xX13 (kq aU_24) iX_21 ++ gM G uM (uC 0) iM_22 sM_23 ++ gU G aU_24 (uC 0) iU_25 sU_26 ++ gC G uC iC tC sC ++ gM G uM2 (uC 0) iM2_15 sM2_16 ++ gT G uT sT (va_up iT_7 1 0) jT_8 ++ gB G uB (uT 0) (uC 0) sB_5 iB_14) H → va_D A (gX G uX (uT 0) (uC 0) xX2 (uM 0) (uM2 0) xX7 xX8 (uB 0) xX10 xX11 xX12 xX13 (kq aU_24) iX_21 ++ gM G uM (uC 0) iM_22 sM_23 ++ gU G aU_24 (uC 0) iU_25 sU_26 ++ gC G uC iC tC sC ++ gM G uM2 (uC 0) iM2_15 sM2_16 ++ gT G uT sT (va_up iT_7 1 0) jT_8 ++ gB G uB (uT 0) (uC 0) sB_5 iB_14) → va_S A s.heap H locs → lv_has ls 3 [(0, .ref (uX 0))] → W p l e (RM 8) s m args below meth c H locs 0 0 QQ (F0 m 96 ls []) := by
        intro iX_21 iM_22 sM_23 aU_24 iU_25 sU_26 H locs ls hf hP hD hS hl
        rw [eK_20] at hf
        try dsimp only at hf
        refine lv_aload_n X.hx X.hb dX10_book_96 rfl (lv_at hl 0 rfl) ?_
        refine gf_X10_73 X hP 0 (get_blk (L := ([] : va_W)) (g := (gX G uX (uT 0) (uC 0) xX2 (uM 0) (uM2 0) xX7 xX8 (uB 0) xX10 xX11 xX12 xX13 (kq aU_24) iX_21)) (R := (gM G uM (uC 0) iM_22 sM_23 ++ gU G aU_24 (uC 0) iU_25 sU_26 ++ gC G uC iC tC sC ++ gM G uM2 (uC 0) iM2_15 sM2_16 ++ gT G uT sT (va_up iT_7 1 0) jT_8 ++ gB G uB (uT 0) (uC 0) sB_5 iB_14)) (k := 0) (by simp only [List.append_assoc, List.append_nil, List.nil_append]) rfl rfl) (v := .ref (uB 0)) rfl dX10_book_97 ?_
        refine gf_X10_306 X hP 83 (get_blk (L := (gX G uX (uT 0) (uC 0) xX2 (uM 0) (uM2 0) xX7 xX8 (uB 0) xX10 xX11 xX12 xX13 (kq aU_24) iX_21 ++ gM G uM (uC 0) iM_22 sM_23 ++ gU G aU_24 (uC 0) iU_25 sU_26 ++ gC G uC iC tC sC ++ gM G uM2 (uC 0) iM2_15 sM2_16 ++ gT G uT sT (va_up iT_7 1 0) jT_8)) (g := (gB G uB (uT 0) (uC 0) sB_5 iB_14)) (R := ([] : va_W)) (k := 0) (by simp only [List.append_assoc, List.append_nil, List.nil_append]) rfl rfl) (v := .int (iB_14 8)) rfl dX10_book_100 ?_
        refine lv_if_ne (tgt := 110) X.hx X.hb dX10_book_103 (by decide) (fun hc_27 => ?_) (fun hc_27 => ?_)
        · replace hf := if_f hf hc_27
          refine lv_aload_n X.hx X.hb dX10_book_110 rfl (lv_at hl 0 rfl) ?_
          refine gf_X10_73 X hP 0 (get_blk (L := ([] : va_W)) (g := (gX G uX (uT 0) (uC 0) xX2 (uM 0) (uM2 0) xX7 xX8 (uB 0) xX10 xX11 xX12 xX13 (kq aU_24) iX_21)) (R := (gM G uM (uC 0) iM_22 sM_23 ++ gU G aU_24 (uC 0) iU_25 sU_26 ++ gC G uC iC tC sC ++ gM G uM2 (uC 0) iM2_15 sM2_16 ++ gT G uT sT (va_up iT_7 1 0) jT_8 ++ gB G uB (uT 0) (uC 0) sB_5 iB_14)) (k := 0) (by simp only [List.append_assoc, List.append_nil, List.nil_append]) rfl rfl) (v := .ref (uB 0)) rfl dX10_book_111 ?_
          refine gf_X10_303 X hP 83 (get_blk (L := (gX G uX (uT 0) (uC 0) xX2 (uM 0) (uM2 0) xX7 xX8 (uB 0) xX10 xX11 xX12 xX13 (kq aU_24) iX_21 ++ gM G uM (uC 0) iM_22 sM_23 ++ gU G aU_24 (uC 0) iU_25 sU_26 ++ gC G uC iC tC sC ++ gM G uM2 (uC 0) iM2_15 sM2_16 ++ gT G uT sT (va_up iT_7 1 0) jT_8)) (g := (gB G uB (uT 0) (uC 0) sB_5 iB_14)) (R := ([] : va_W)) (k := 0) (by simp only [List.append_assoc, List.append_nil, List.nil_append]) rfl rfl) (v := .int (iB_14 9)) rfl dX10_book_114 ?_
          cases hf
          subst hQ
          exact r_iret X hP hD hS dX10_book_117
        · replace hf := if_t hf hc_27
          refine lv_iconst (v := (-1)) X.hx X.hb dX10_book_106 (by decide) ?_
          refine lv_goto (tgt := 117) X.hx X.hb dX10_book_107 (by decide) ?_
          cases hf
          subst hQ
          exact r_iret X hP hD hS dX10_book_117
      refine lv_icmp_ne (tgt := 96) X.hx X.hb dX10_book_68 (by decide) (fun hc_28 => ?_) (fun hc_28 => ?_)
      · replace hf := if_f hf hc_28
        exact hj_19 _ _ _ _ _ _ _ _ _ hf hP hD hS (lv_sub hl [1] rfl)
      · replace hf := if_t hf hc_28
        refine lv_aload_n X.hx X.hb dX10_book_71 rfl (lv_at hl 1 rfl) ?_
        refine gf_X10_73 X hP 0 (get_blk (L := ([] : va_W)) (g := (gX G uX (uT 0) (uC 0) xX2 (uM 0) (uM2 0) xX7 xX8 (uB 0) xX10 xX11 xX12 xX13 (kq aU) iX)) (R := (gM G uM (uC 0) iM sM ++ gU G aU (uC 0) iU sU ++ gC G uC iC tC sC ++ gM G uM2 (uC 0) iM2_15 sM2_16 ++ gT G uT sT (va_up iT_7 1 0) jT_8 ++ gB G uB (uT 0) (uC 0) sB_5 iB_14)) (k := 0) (by simp only [List.append_assoc, List.append_nil, List.nil_append]) rfl rfl) (v := .ref (uB 0)) rfl dX10_book_72 ?_
        refine gf_X10_303 X hP 83 (get_blk (L := (gX G uX (uT 0) (uC 0) xX2 (uM 0) (uM2 0) xX7 xX8 (uB 0) xX10 xX11 xX12 xX13 (kq aU) iX ++ gM G uM (uC 0) iM sM ++ gU G aU (uC 0) iU sU ++ gC G uC iC tC sC ++ gM G uM2 (uC 0) iM2_15 sM2_16 ++ gT G uT sT (va_up iT_7 1 0) jT_8)) (g := (gB G uB (uT 0) (uC 0) sB_5 iB_14)) (R := ([] : va_W)) (k := 0) (by simp only [List.append_assoc, List.append_nil, List.nil_append]) rfl rfl) (v := .int (iB_14 9)) rfl dX10_book_75 ?_
        refine lv_if_le (tgt := 96) X.hx X.hb dX10_book_78 (by decide) (fun hc_29 => ?_) (fun hc_29 => ?_)
        · replace hf := if_t hf hc_29
          exact hj_19 _ _ _ _ _ _ _ _ _ hf hP hD hS (lv_sub hl [1] rfl)
        · replace hf := if_f hf hc_29
          refine lv_aload_n X.hx X.hb dX10_book_81 rfl (lv_at hl 1 rfl) ?_
          obtain ⟨⟨iX_30, aU_31, iU_32, sU_33⟩, hc_34, hf⟩ := bd_i hf
          refine r_bvv ([] : va_W) (gC G uC iC tC sC ++ gM G uM2 (uC 0) iM2_15 sM2_16 ++ gT G uT sT (va_up iT_7 1 0) jT_8 ++ gB G uB (uT 0) (uC 0) sB_5 iB_14) (As := []) (rest := []) X sm_X10_215 (c_X10_keepU l G N uX uM (uT 0) (uC 0) xX2 (uM2 0) xX7 xX8 (uB 0) xX10 xX11 xX12 xX13 (uC 0) iX iM sM aU iU sU hc_34) hP hD hS hA (by simp only [List.append_assoc, List.append_nil, List.nil_append]) (wo := (gX G uX (uT 0) (uC 0) xX2 (uM 0) (uM2 0) xX7 xX8 (uB 0) xX10 xX11 xX12 xX13 (kq aU_31) iX_30 ++ gM G uM (uC 0) iM sM ++ gU G aU_31 (uC 0) iU_32 sU_33 ++ gC G uC iC tC sC ++ gM G uM2 (uC 0) iM2_15 sM2_16 ++ gT G uT sT (va_up iT_7 1 0) jT_8 ++ gB G uB (uT 0) (uC 0) sB_5 iB_14)) (by simp only [List.append_assoc, List.append_nil, List.nil_append]) 0 rfl rfl rfl hl.1 (lv_room (Nat.le_of_ble_eq_true rfl)) ⟨Nat.le_of_ble_eq_true rfl, Nat.le_of_ble_eq_true rfl⟩ ⟨Nat.zero_le _, Nat.zero_le _⟩ dX10_book_82 (fun H locs hP hD hS => ?_)
          refine lv_aload_n X.hx X.hb dX10_book_85 rfl (lv_at hl 1 rfl) ?_
          refine gf_X10_37 X hP 0 (get_blk (L := ([] : va_W)) (g := (gX G uX (uT 0) (uC 0) xX2 (uM 0) (uM2 0) xX7 xX8 (uB 0) xX10 xX11 xX12 xX13 (kq aU_31) iX_30)) (R := (gM G uM (uC 0) iM sM ++ gU G aU_31 (uC 0) iU_32 sU_33 ++ gC G uC iC tC sC ++ gM G uM2 (uC 0) iM2_15 sM2_16 ++ gT G uT sT (va_up iT_7 1 0) jT_8 ++ gB G uB (uT 0) (uC 0) sB_5 iB_14)) (k := 0) (by simp only [List.append_assoc, List.append_nil, List.nil_append]) rfl rfl) (v := .ref (uM 0)) rfl dX10_book_86 ?_
          refine lv_aload_n X.hx X.hb dX10_book_89 rfl (lv_at hl 1 rfl) ?_
          refine gf_X10_41 X hP 0 (get_blk (L := ([] : va_W)) (g := (gX G uX (uT 0) (uC 0) xX2 (uM 0) (uM2 0) xX7 xX8 (uB 0) xX10 xX11 xX12 xX13 (kq aU_31) iX_30)) (R := (gM G uM (uC 0) iM sM ++ gU G aU_31 (uC 0) iU_32 sU_33 ++ gC G uC iC tC sC ++ gM G uM2 (uC 0) iM2_15 sM2_16 ++ gT G uT sT (va_up iT_7 1 0) jT_8 ++ gB G uB (uT 0) (uC 0) sB_5 iB_14)) (k := 0) (by simp only [List.append_assoc, List.append_nil, List.nil_append]) rfl rfl) (v := .ref (uM2 0)) rfl dX10_book_90 ?_
          obtain ⟨⟨iM_35, sM_36⟩, hc_37, hf⟩ := bd_i hf
          refine r_pvv [gX G uX (uT 0) (uC 0) xX2 (uM 0) (uM2 0) xX7 xX8 (uB 0) xX10 xX11 xX12 xX13 (kq aU_31) iX_30, gM G uM (uC 0) iM sM, gU G aU_31 (uC 0) iU_32 sU_33, gC G uC iC tC sC, gM G uM2 (uC 0) iM2_15 sM2_16, gT G uT sT (va_up iT_7 1 0) jT_8, gB G uB (uT 0) (uC 0) sB_5 iB_14] [gX G uX (uT 0) (uC 0) xX2 (uM 0) (uM2 0) xX7 xX8 (uB 0) xX10 xX11 xX12 xX13 (kq aU_31) iX_30, gM G uM (uC 0) iM_35 sM_36, gU G aU_31 (uC 0) iU_32 sU_33, gC G uC iC tC sC, gM G uM2 (uC 0) iM2_15 sM2_16, gT G uT sT (va_up iT_7 1 0) jT_8, gB G uB (uT 0) (uC 0) sB_5 iB_14] [gM G uM (uC 0) iM sM, gM G uM2 (uC 0) iM2_15 sM2_16] [gM G uM (uC 0) iM_35 sM_36, gM G uM2 (uC 0) iM2_15 sM2_16] [gX G uX (uT 0) (uC 0) xX2 (uM 0) (uM2 0) xX7 xX8 (uB 0) xX10 xX11 xX12 xX13 (kq aU_31) iX_30, gU G aU_31 (uC 0) iU_32 sU_33, gC G uC iC tC sC, gT G uT sT (va_up iT_7 1 0) jT_8, gB G uB (uT 0) (uC 0) sB_5 iB_14] 7 [1, 4] [0, 2, 3, 5, 6] (As := [.ref (uM2 0)]) (rest := []) X sm_X10_244 (c_X4_copyFrom l G N uM uM2 (uC 0) (uC 0) iM sM iM2_15 sM2_16 hc_37) hP hD hS hA rfl rfl (by decide) (by simp only [List.flatten_cons, List.flatten_nil, List.append_assoc, List.append_nil]) rfl (by simp only [List.flatten_cons, List.flatten_nil, List.append_assoc, List.append_nil]) rfl (by simp only [List.flatten_cons, List.flatten_nil, List.append_assoc, List.append_nil]) rfl rfl (wo := (gX G uX (uT 0) (uC 0) xX2 (uM 0) (uM2 0) xX7 xX8 (uB 0) xX10 xX11 xX12 xX13 (kq aU_31) iX_30 ++ gM G uM (uC 0) iM_35 sM_36 ++ gU G aU_31 (uC 0) iU_32 sU_33 ++ gC G uC iC tC sC ++ gM G uM2 (uC 0) iM2_15 sM2_16 ++ gT G uT sT (va_up iT_7 1 0) jT_8 ++ gB G uB (uT 0) (uC 0) sB_5 iB_14)) (by simp only [List.flatten_cons, List.flatten_nil, List.append_assoc, List.append_nil]) 0 rfl rfl rfl hl.1 (lv_room (Nat.le_of_ble_eq_true rfl)) ⟨Nat.le_of_ble_eq_true rfl, Nat.le_of_ble_eq_true rfl⟩ ⟨Nat.zero_le _, Nat.zero_le _⟩ dX10_book_93 (fun H locs hP hD hS => ?_)
          exact hj_19 _ _ _ _ _ _ _ _ _ hf hP hD hS (lv_sub hl [1] rfl)
    · replace hf := if_t hf hc_10
      refine lv_bipush (v := (-2)) X.hx X.hb dX10_book_33 (by decide) ?_
      refine lv_aload_n X.hx X.hb dX10_book_35 rfl (lv_at hl 1 rfl) ?_
      refine gf_X10_10 X hP 0 (get_blk (L := ([] : va_W)) (g := (gX G uX (uT 0) (uC 0) xX2 (uM 0) (uM2 0) xX7 xX8 (uB 0) xX10 xX11 xX12 xX13 (kq aU) iX)) (R := (gM G uM (uC 0) iM sM ++ gU G aU (uC 0) iU sU ++ gC G uC iC tC sC ++ gM G uM2 (uC 0) iM2 sM2 ++ gT G uT sT (va_up iT_7 1 0) jT_8 ++ gB G uB (uT 0) (uC 0) sB_5 iB_6)) (k := 0) (by simp only [List.append_assoc, List.append_nil, List.nil_append]) rfl rfl) (v := .ref (uT 0)) rfl dX10_book_36 ?_
      refine gf_X10_119 X hP 80 (get_blk (L := (gX G uX (uT 0) (uC 0) xX2 (uM 0) (uM2 0) xX7 xX8 (uB 0) xX10 xX11 xX12 xX13 (kq aU) iX ++ gM G uM (uC 0) iM sM ++ gU G aU (uC 0) iU sU ++ gC G uC iC tC sC ++ gM G uM2 (uC 0) iM2 sM2)) (g := (gT G uT sT (va_up iT_7 1 0) jT_8)) (R := (gB G uB (uT 0) (uC 0) sB_5 iB_6)) (k := 0) (by simp only [List.append_assoc, List.append_nil, List.nil_append]) rfl rfl) (v := .int (iT_7 12)) rfl dX10_book_39 ?_
      refine lv_isub X.hx X.hb dX10_book_42 ?_
      obtain ⟨rfl, he_0⟩ := Prod.mk.inj (Option.some.inj hf)
      obtain ⟨rfl, he_1⟩ := Prod.mk.inj he_0
      obtain ⟨rfl, he_2⟩ := Prod.mk.inj he_1
      obtain ⟨rfl, he_3⟩ := Prod.mk.inj he_2
      obtain ⟨rfl, he_4⟩ := Prod.mk.inj he_3
      obtain ⟨rfl, he_5⟩ := Prod.mk.inj he_4
      obtain ⟨rfl, he_6⟩ := Prod.mk.inj he_5
      obtain ⟨rfl, he_7⟩ := Prod.mk.inj he_6
      obtain ⟨rfl, he_8⟩ := Prod.mk.inj he_7
      obtain ⟨rfl, he_9⟩ := Prod.mk.inj he_8
      obtain ⟨rfl, he_10⟩ := Prod.mk.inj he_9
      obtain ⟨rfl, he_11⟩ := Prod.mk.inj he_10
      subst he_11
      subst hQ
      exact r_iret X hP hD hS dX10_book_43
  refine lv_if_eq (tgt := 13) X.hx X.hb dX10_book_1 (by decide) (fun hc_38 => ?_) (fun hc_38 => ?_)
  · replace hf := if_t hf hc_38
    exact hj_2 _ _ _ hf hP hD hS (lv_sub hl [0, 1] rfl)
  · replace hf := if_f hf hc_38
    refine lv_iload_n X.hx X.hb dX10_book_4 rfl (lv_at hl 1 rfl) ?_
    refine lv_iconst (v := 1) X.hx X.hb dX10_book_5 (by decide) ?_
    refine lv_icmp_eq (tgt := 13) X.hx X.hb dX10_book_6 (by decide) (fun hc_39 => ?_) (fun hc_39 => ?_)
    · replace hf := if_t hf hc_39
      exact hj_2 _ _ _ hf hP hD hS (lv_sub hl [0, 1] rfl)
    · replace hf := if_f hf hc_39
      refine lv_sipush (v := (-1000)) X.hx X.hb dX10_book_9 (by decide) ?_
      cases hf
      subst hQ
      exact r_iret X hP hD hS dX10_book_12

