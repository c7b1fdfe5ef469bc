
def rotf {α : Type} (f : Nat → α) : Nat → α := fun k => match k with
  | 0 => f 1
  | 1 => f 2
  | 2 => f 3
  | 3 => f 4
  | 4 => f 5
  | 5 => f 6
  | 6 => f 7
  | 7 => f 0
  | k => f k
def l8 {α : Type} (x0 x1 x2 x3 x4 x5 x6 x7 : α) : Nat → α := fun k => match k with
  | 0 => x0
  | 1 => x1
  | 2 => x2
  | 3 => x3
  | 4 => x4
  | 5 => x5
  | 6 => x6
  | _ => x7
theorem CV.to {l : Launch} {G : GT} {y : MethodName} {cc : ByteArray} {nL d : Nat} {av : List Value} {ws ws' ws2 : va_W} (h : CV l G y cc nL d av ws ws') (is : List Nat) (hm : is.map (fun i => ws'[i]?) = ws2.map some) (hn : va_nd is = true) : CV l G y cc nL d av ws ws2 := by
  intro sz
  refine MetFree.mono (h sz) (fun _ _ h => h) (fun _ _ _ _ _ h => h) (fun a st o t _ hq => ?_)
  obtain ⟨⟨⟨u, e1, e2, hP, hD⟩, hF⟩, hL⟩ := hq
  exact ⟨⟨⟨u, e1, e2, hP.sub is (fm_of hm), hD.sub is hn hm⟩, hF⟩, hL⟩
theorem kq_rot (a0 a1 a2 a3 a4 a5 a6 a7 : Nat) : va_up (va_up (va_up (va_up (va_up (va_up (va_up (va_up (kl8 a0 a1 a2 a3 a4 a5 a6 a7) 0 (some a1)) 1 (some a2)) 2 (some a3)) 3 (some a4)) 4 (some a5)) 5 (some a6)) 6 (some a7)) 7 (some a0) = kl8 a1 a2 a3 a4 a5 a6 a7 a0 := by
  funext k
  match k with
  | 0 => rfl
  | 1 => rfl
  | 2 => rfl
  | 3 => rfl
  | 4 => rfl
  | 5 => rfl
  | 6 => rfl
  | 7 => rfl
  | k + 8 => simp [va_up, kl8]
def f_X10_keepU (N : Nat) (iX : Nat → Int32) (iM : Nat → Int32) (sM : Nat → Nat → Int32) (aU : Nat → Nat → Nat) (iU : Nat → Nat → Int32) (sU : Nat → Nat → Nat → Int32) : Option ((Nat → Int32) × (Nat → Nat → Nat) × (Nat → Nat → Int32) × (Nat → Nat → Nat → Int32)) :=
  if iX 6 < 8 then bd (f_X10_keepForUndo_A N iX iM sM (iU 0) (sU 0) (iU 1) (sU 1) (iU 2) (sU 2) (iU 3) (sU 3) (iU 4) (sU 4) (iU 5) (sU 5) (iU 6) (sU 6) (iU 7) (sU 7)) (fun (iX_, i0, s0, i1, s1, i2, s2, i3, s3, i4, s4, i5, s5, i6, s6, i7, s7) => some (iX_, aU, l8 i0 i1 i2 i3 i4 i5 i6 i7, l8 s0 s1 s2 s3 s4 s5 s6 s7)) else bd (f_X10_keepForUndo_B N iX iM sM (iU 0) (sU 0) (iU 1) (sU 1) (iU 2) (sU 2) (iU 3) (sU 3) (iU 4) (sU 4) (iU 5) (sU 5) (iU 6) (sU 6) (iU 7) (sU 7)) (fun (iX_, i0, s0) => some (iX_, rotf aU, l8 (iU 1) (iU 2) (iU 3) (iU 4) (iU 5) (iU 6) (iU 7) i0, l8 (sU 1) (sU 2) (sU 3) (sU 4) (sU 5) (sU 6) (sU 7) s0))
set_option maxHeartbeats 4000000 in
set_option maxRecDepth 100000 in
theorem c_X10_keepU (l : Launch) (G : GT) (N : Nat) (uX uM : Nat → Nat) (xX0 xX1 xX2 xX4 xX7 xX8 xX9 xX10 xX11 xX12 xX13 x0 : Nat) (iX : Nat → Int32) (iM : Nat → Int32) (sM : Nat → Nat → Int32) (aU : Nat → Nat → Nat) (iU : Nat → Nat → Int32) (sU : Nat → Nat → Nat → Int32) {iX' : Nat → Int32} {aU' : Nat → Nat → Nat} {iU' : Nat → Nat → Int32} {sU' : Nat → Nat → Nat → Int32} (hf : f_X10_keepU N iX iM sM aU iU sU = some (iX', aU', iU', sU')) : CV l G yX10_keepForUndo cX10_keepForUndo 3 3 [.ref (uX 0)] (gX G uX xX0 xX1 xX2 (uM 0) xX4 xX7 xX8 xX9 xX10 xX11 xX12 xX13 (kq aU) iX ++ gM G uM x0 iM sM ++ gU G aU x0 iU sU) (gX G uX xX0 xX1 xX2 (uM 0) xX4 xX7 xX8 xX9 xX10 xX11 xX12 xX13 (kq aU') iX' ++ gM G uM x0 iM sM ++ gU G aU' x0 iU' sU') := by
  unfold f_X10_keepU at hf
  by_cases h0 : iX 6 < 8
  · replace hf := if_t hf h0
    obtain ⟨⟨iX_, i0, s0, i1, s1, i2, s2, i3, s3, i4, s4, i5, s5, i6, s6, i7, s7⟩, hc, hf⟩ := bd_i hf
    cases hf
    exact c_X10_keepForUndo_A l G N uX uM (aU 0) (aU 1) (aU 2) (aU 3) (aU 4) (aU 5) (aU 6) (aU 7) xX0 xX1 xX2 xX4 xX7 xX8 xX9 xX10 xX11 xX12 xX13 x0 x0 x0 x0 x0 x0 x0 x0 x0 iX iM sM (iU 0) (sU 0) (iU 1) (sU 1) (iU 2) (sU 2) (iU 3) (sU 3) (iU 4) (sU 4) (iU 5) (sU 5) (iU 6) (sU 6) (iU 7) (sU 7) h0 hc
  · replace hf := if_f hf h0
    obtain ⟨⟨iX_, i0, s0⟩, hc, hf⟩ := bd_i hf
    cases hf
    have h := c_X10_keepForUndo_B l G N uX uM (aU 0) (aU 1) (aU 2) (aU 3) (aU 4) (aU 5) (aU 6) (aU 7) xX0 xX1 xX2 xX4 xX7 xX8 xX9 xX10 xX11 xX12 xX13 x0 x0 x0 x0 x0 x0 x0 x0 x0 iX iM sM (iU 0) (sU 0) (iU 1) (sU 1) (iU 2) (sU 2) (iU 3) (sU 3) (iU 4) (sU 4) (iU 5) (sU 5) (iU 6) (sU 6) (iU 7) (sU 7) h0 hc
    rw [kq_rot] at h
    exact CV.to h [0, 1, 2, 3, 4, 5, 6, 7, 8, 16, 17, 18, 19, 20, 21, 22, 23, 24, 25, 26, 27, 28, 29, 30, 31, 32, 33, 34, 35, 36, 37, 38, 39, 40, 41, 42, 43, 44, 45, 46, 47, 48, 49, 50, 51, 52, 53, 54, 55, 56, 57, 58, 59, 60, 61, 62, 63, 64, 9, 10, 11, 12, 13, 14, 15] rfl rfl
def f_X10_undo (N : Nat) (iX : Nat → Int32) (iM : Nat → Int32) (sM : Nat → Nat → Int32) (aU : Nat → Nat → Nat) (iU : Nat → Nat → Int32) (sU : Nat → Nat → Nat → Int32) : Option (Int32 × (Nat → Int32) × (Nat → Int32) × (Nat → Nat → Int32)) := f_X10_undo_K N iX iM sM (iU 0) (sU 0) (iU 1) (sU 1) (iU 2) (sU 2) (iU 3) (sU 3) (iU 4) (sU 4) (iU 5) (sU 5) (iU 6) (sU 6) (iU 7) (sU 7)
set_option maxHeartbeats 4000000 in
set_option maxRecDepth 100000 in
theorem c_X10_undo (l : Launch) (G : GT) (N : Nat) (uX uM : Nat → Nat) (xX0 xX1 xX2 xX4 xX7 xX8 xX9 xX10 xX11 xX12 xX13 x0 : Nat) (iX : Nat → Int32) (iM : Nat → Int32) (sM : Nat → Nat → Int32) (aU : Nat → Nat → Nat) (iU : Nat → Nat → Int32) (sU : Nat → Nat → Nat → Int32) {r : Int32} {iX' : Nat → Int32} {iM' : Nat → Int32} {sM' : Nat → Nat → Int32} (hf : f_X10_undo N iX iM sM aU iU sU = some (r, iX', iM', sM')) : CI l G yX10_undo cX10_undo 1 .int 3 [.ref (uX 0)] (gX G uX xX0 xX1 xX2 (uM 0) xX4 xX7 xX8 xX9 xX10 xX11 xX12 xX13 (kq aU) iX ++ gM G uM x0 iM sM ++ gU G aU x0 iU sU) r (gX G uX xX0 xX1 xX2 (uM 0) xX4 xX7 xX8 xX9 xX10 xX11 xX12 xX13 (kq aU) iX' ++ gM G uM x0 iM' sM' ++ gU G aU x0 iU sU) := c_X10_undo_K l G N uX uM (aU 0) (aU 1) (aU 2) (aU 3) (aU 4) (aU 5) (aU 6) (aU 7) xX0 xX1 xX2 xX4 xX7 xX8 xX9 xX10 xX11 xX12 xX13 x0 x0 x0 x0 x0 x0 x0 x0 x0 iX iM sM (iU 0) (sU 0) (iU 1) (sU 1) (iU 2) (sU 2) (iU 3) (sU 3) (iU 4) (sU 4) (iU 5) (sU 5) (iU 6) (sU 6) (iU 7) (sU 7) hf

def f_X10_image (N : Nat) (qX : Nat → Option Nat) (iX : Nat → Int32) (iC : Nat → Int32) (tC : Nat → Nat → Int64) (sC : Nat → Nat → Int32) (iM : Nat → Int32) (sM : Nat → Nat → Int32) (iS : Nat → Int32) (sS : Nat → Nat → Int32) (iI : Nat → Int32) (iC2 : Nat → Int32) (tC2 : Nat → Nat → Int64) (sC2 : Nat → Nat → Int32) (iM2 : Nat → Int32) (sM2 : Nat → Nat → Int32) (iS2 : Nat → Int32) (sS2 : Nat → Nat → Int32) (iI2 : Nat → Int32) (iC3 : Nat → Int32) (tC3 : Nat → Nat → Int64) (sC3 : Nat → Nat → Int32) (iM3 : Nat → Int32) (sM3 : Nat → Nat → Int32) (iS3 : Nat → Int32) (sS3 : Nat → Nat → Int32) (p1 : Int32) : Option (Int32 × (Nat → Int32) × (Nat → Int32) × (Nat → Nat → Int64) × (Nat → Nat → Int32) × (Nat → Int32) × (Nat → Nat → Int32) × (Nat → Int32) × (Nat → Nat → Int32) × (Nat → Int32) × (Nat → Int32) × (Nat → Nat → Int64) × (Nat → Nat → Int32) × (Nat → Int32) × (Nat → Nat → Int32) × (Nat → Int32) × (Nat → Nat → Int32)) :=
  (if p1 = 0 then (if p1 = 0 then bd (f_X1_copyFrom N iC2 tC2 sC2 iC tC sC) (fun (iC2_13, tC2_14, sC2_15) => bd (f_X4_copyFrom N iM2 sM2 iM sM) (fun (iM2_17, sM2_18) => bd (f_X6_copyFrom N iS2 sS2 iS sS) (fun (iS2_20, sS2_21) => some (1, (va_up iI 0 1), iC2_13, tC2_14, sC2_15, iM2_17, sM2_18, iS2_20, sS2_21, iI2, iC3, tC3, sC3, iM3, sM3, iS3, sS3)))) else bd (f_X1_copyFrom N iC3 tC3 sC3 iC tC sC) (fun (iC3_3, tC3_4, sC3_5) => bd (f_X4_copyFrom N iM3 sM3 iM sM) (fun (iM3_7, sM3_8) => bd (f_X6_copyFrom N iS3 sS3 iS sS) (fun (iS3_10, sS3_11) => some (1, iI, iC2, tC2, sC2, iM2, sM2, iS2, sS2, (va_up iI2 0 1), iC3_3, tC3_4, sC3_5, iM3_7, sM3_8, iS3_10, sS3_11))))) else (if p1 = 1 then (if p1 = 0 then bd (f_X1_copyFrom N iC2 tC2 sC2 iC tC sC) (fun (iC2_35, tC2_36, sC2_37) => bd (f_X4_copyFrom N iM2 sM2 iM sM) (fun (iM2_39, sM2_40) => bd (f_X6_copyFrom N iS2 sS2 iS sS) (fun (iS2_42, sS2_43) => some (1, (va_up iI 0 1), iC2_35, tC2_36, sC2_37, iM2_39, sM2_40, iS2_42, sS2_43, iI2, iC3, tC3, sC3, iM3, sM3, iS3, sS3)))) else bd (f_X1_copyFrom N iC3 tC3 sC3 iC tC sC) (fun (iC3_25, tC3_26, sC3_27) => bd (f_X4_copyFrom N iM3 sM3 iM sM) (fun (iM3_29, sM3_30) => bd (f_X6_copyFrom N iS3 sS3 iS sS) (fun (iS3_32, sS3_33) => some (1, iI, iC2, tC2, sC2, iM2, sM2, iS2, sS2, (va_up iI2 0 1), iC3_25, tC3_26, sC3_27, iM3_29, sM3_30, iS3_32, sS3_33))))) else some (0, iI, iC2, tC2, sC2, iM2, sM2, iS2, sS2, iI2, iC3, tC3, sC3, iM3, sM3, iS3, sS3)))
set_option maxHeartbeats 4000000 in
set_option maxRecDepth 100000 in
theorem c_X10_image (l : Launch) (G : GT) (N : Nat) (uX uC uM uS uI uC2 uM2 uS2 uI2 uC3 uM3 uS3 : Nat → Nat) (xX0 xX2 xX4 xX7 xX8 xX9 xX11 : Nat) (qX : Nat → Option Nat) (iX : Nat → Int32) (iC : Nat → Int32) (tC : Nat → Nat → Int64) (sC : Nat → Nat → Int32) (iM : Nat → Int32) (sM : Nat → Nat → Int32) (iS : Nat → Int32) (sS : Nat → Nat → Int32) (iI : Nat → Int32) (iC2 : Nat → Int32) (tC2 : Nat → Nat → Int64) (sC2 : Nat → Nat → Int32) (iM2 : Nat → Int32) (sM2 : Nat → Nat → Int32) (iS2 : Nat → Int32) (sS2 : Nat → Nat → Int32) (iI2 : Nat → Int32) (iC3 : Nat → Int32) (tC3 : Nat → Nat → Int64) (sC3 : Nat → Nat → Int32) (iM3 : Nat → Int32) (sM3 : Nat → Nat → Int32) (iS3 : Nat → Int32) (sS3 : Nat → Nat → Int32) (p1 : Int32) {r : Int32} {iI' : Nat → Int32} {iC2' : Nat → Int32} {tC2' : Nat → Nat → Int64} {sC2' : Nat → Nat → Int32} {iM2' : Nat → Int32} {sM2' : Nat → Nat → Int32} {iS2' : Nat → Int32} {sS2' : Nat → Nat → Int32} {iI2' : Nat → Int32} {iC3' : Nat → Int32} {tC3' : Nat → Nat → Int64} {sC3' : Nat → Nat → Int32} {iM3' : Nat → Int32} {sM3' : Nat → Nat → Int32} {iS3' : Nat → Int32} {sS3' : Nat → Nat → Int32} (hf : f_X10_image N qX iX iC tC sC iM sM iS sS iI iC2 tC2 sC2 iM2 sM2 iS2 sS2 iI2 iC3 tC3 sC3 iM3 sM3 iS3 sS3 p1 = some (r, iI', iC2', tC2', sC2', iM2', sM2', iS2', sS2', iI2', iC3', tC3', sC3', iM3', sM3', iS3', sS3')) : CI l G yX10_image cX10_image 3 .boolean 3 [.ref (uX 0), .int p1] (gX G uX xX0 (uC 0) xX2 (uM 0) xX4 xX7 xX8 xX9 (uS 0) xX11 (uI 0) (uI2 0) qX iX ++ gC G uC iC tC sC ++ gM G uM (uC 0) iM sM ++ gS G uS iS sS ++ gI G uI (uC2 0) (uM2 0) (uS2 0) iI ++ gC G uC2 iC2 tC2 sC2 ++ gM G uM2 (uC2 0) iM2 sM2 ++ gS G uS2 iS2 sS2 ++ gI G uI2 (uC3 0) (uM3 0) (uS3 0) iI2 ++ gC G uC3 iC3 tC3 sC3 ++ gM G uM3 (uC3 0) iM3 sM3 ++ gS G uS3 iS3 sS3) r (gX G uX xX0 (uC 0) xX2 (uM 0) xX4 xX7 xX8 xX9 (uS 0) xX11 (uI 0) (uI2 0) qX iX ++ gC G uC iC tC sC ++ gM G uM (uC 0) iM sM ++ gS G uS iS sS ++ gI G uI (uC2 0) (uM2 0) (uS2 0) iI' ++ gC G uC2 iC2' tC2' sC2' ++ gM G uM2 (uC2 0) iM2' sM2' ++ gS G uS2 iS2' sS2' ++ gI G uI2 (uC3 0) (uM3 0) (uS3 0) iI2' ++ gC G uC3 iC3' tC3' sC3' ++ gM G uM3 (uC3 0) iM3' sM3' ++ gS G uS3 iS3' sS3') := by
  refine CI.of (by decide) (Nat.le_of_ble_eq_true rfl) ?_
  intro p e s m args below meth c A X hA hP hD hS ls hl
  have hl : lv_has ls 3 [(0, .ref (uX 0)), (1, .int p1)] := hl
  generalize hQ : MQ below (QI G A r (gX G uX xX0 (uC 0) xX2 (uM 0) xX4 xX7 xX8 xX9 (uS 0) xX11 (uI 0) (uI2 0) qX iX ++ gC G uC iC tC sC ++ gM G uM (uC 0) iM sM ++ gS G uS iS sS ++ gI G uI (uC2 0) (uM2 0) (uS2 0) iI' ++ gC G uC2 iC2' tC2' sC2' ++ gM G uM2 (uC2 0) iM2' sM2' ++ gS G uS2 iS2' sS2' ++ gI G uI2 (uC3 0) (uM3 0) (uS3 0) iI2' ++ gC G uC3 iC3' tC3' sC3' ++ gM G uM3 (uC3 0) iM3' sM3' ++ gS G uS3 iS3' sS3')) args s 0 0 A = QQ
  unfold f_X10_image at hf
  refine lv_iload_n X.hx X.hb dX10_image_0 rfl (lv_at hl 1 rfl) ?_
  refine lv_if_eq (tgt := 11) X.hx X.hb dX10_image_1 (by decide) (fun hc_1 => ?_) (fun hc_1 => ?_)
  · replace hf := if_t hf hc_1
    refine lv_iload_n X.hx X.hb dX10_image_11 rfl (lv_at hl 1 rfl) ?_
    refine lv_if_ne (tgt := 22) X.hx X.hb dX10_image_12 (by decide) (fun hc_2 => ?_) (fun hc_2 => ?_)
    · replace hf := if_f hf hc_2
      refine lv_aload_n X.hx X.hb dX10_image_22 rfl (lv_at hl 0 rfl) ?_
      refine gf_X10_98 X hP 0 rfl (v := .ref (uI2 0)) rfl dX10_image_23 ?_
      refine lv_astore_n (lv' := [(2, .ref (uI2 0)), (0, .ref (uX 0)), (1, .int p1)]) X.hx X.hb dX10_image_26 rfl hl (by decide) rfl (fun ls hl => ?_)
      refine lv_aload_n X.hx X.hb dX10_image_27 rfl (lv_at hl 0 rfl) ?_
      refine gf_X10_340 X hP 43 rfl (v := .ref (uC3 0)) rfl dX10_image_28 ?_
      refine lv_aload_n X.hx X.hb dX10_image_31 rfl (lv_at hl 1 rfl) ?_
      refine gf_X10_19 X hP 0 rfl (v := .ref (uC 0)) rfl dX10_image_32 ?_
      obtain ⟨⟨iC3_3, tC3_4, sC3_5⟩, hc_6, hf⟩ := bd_i hf
      refine r_cvv (As := [.ref (uC 0)]) (rest := []) X sm_X10_125 (c_X1_copyFrom l G N uC3 uC iC3 tC3 sC3 iC tC sC hc_6) hP hD hS hA 44 rfl rfl [44, 45, 46, 47, 48, 49, 50, 51, 2, 3, 4, 5, 6, 7, 8, 9] rfl rfl rfl (wo := (gX G uX xX0 (uC 0) xX2 (uM 0) xX4 xX7 xX8 xX9 (uS 0) xX11 (uI 0) (uI2 0) qX iX ++ gC G uC iC tC sC ++ gM G uM (uC 0) iM sM ++ gS G uS iS sS ++ gI G uI (uC2 0) (uM2 0) (uS2 0) iI ++ gC G uC2 iC2 tC2 sC2 ++ gM G uM2 (uC2 0) iM2 sM2 ++ gS G uS2 iS2 sS2 ++ gI G uI2 (uC3 0) (uM3 0) (uS3 0) iI2 ++ gC G uC3 iC3_3 tC3_4 sC3_5 ++ gM G uM3 (uC3 0) iM3 sM3 ++ gS G uS3 iS3 sS3)) rfl rfl hl.1 (lv_room (Nat.le_of_ble_eq_true rfl)) ⟨Nat.le_of_ble_eq_true rfl, Nat.le_of_ble_eq_true rfl⟩ ⟨Nat.zero_le _, Nat.zero_le _⟩ dX10_image_35 (fun H locs hP hD hS => ?_)
      refine lv_aload_n X.hx X.hb dX10_image_38 rfl (lv_at hl 0 rfl) ?_
      refine gf_X10_341 X hP 43 rfl (v := .ref (uM3 0)) rfl dX10_image_39 ?_
      refine lv_aload_n X.hx X.hb dX10_image_42 rfl (lv_at hl 1 rfl) ?_
      refine gf_X10_37 X hP 0 rfl (v := .ref (uM 0)) rfl dX10_image_43 ?_
      obtain ⟨⟨iM3_7, sM3_8⟩, hc_9, hf⟩ := bd_i hf
      refine r_cvv (As := [.ref (uM 0)]) (rest := []) X sm_X10_244 (c_X4_copyFrom l G N uM3 uM (uC3 0) (uC 0) iM3 sM3 iM sM hc_9) hP hD hS hA 52 rfl rfl [52, 53, 54, 55, 56, 57, 58, 10, 11, 12, 13, 14, 15, 16] rfl rfl rfl (wo := (gX G uX xX0 (uC 0) xX2 (uM 0) xX4 xX7 xX8 xX9 (uS 0) xX11 (uI 0) (uI2 0) qX iX ++ gC G uC iC tC sC ++ gM G uM (uC 0) iM sM ++ gS G uS iS sS ++ gI G uI (uC2 0) (uM2 0) (uS2 0) iI ++ gC G uC2 iC2 tC2 sC2 ++ gM G uM2 (uC2 0) iM2 sM2 ++ gS G uS2 iS2 sS2 ++ gI G uI2 (uC3 0) (uM3 0) (uS3 0) iI2 ++ gC G uC3 iC3_3 tC3_4 sC3_5 ++ gM G uM3 (uC3 0) iM3_7 sM3_8 ++ gS G uS3 iS3 sS3)) rfl rfl hl.1 (lv_room (Nat.le_of_ble_eq_true rfl)) ⟨Nat.le_of_ble_eq_true rfl, Nat.le_of_ble_eq_true rfl⟩ ⟨Nat.zero_le _, Nat.zero_le _⟩ dX10_image_46 (fun H locs hP hD hS => ?_)
      refine lv_aload_n X.hx X.hb dX10_image_49 rfl (lv_at hl 0 rfl) ?_
      refine gf_X10_342 X hP 43 rfl (v := .ref (uS3 0)) rfl dX10_image_50 ?_
      refine lv_aload_n X.hx X.hb dX10_image_53 rfl (lv_at hl 1 rfl) ?_
      refine gf_X10_80 X hP 0 rfl (v := .ref (uS 0)) rfl dX10_image_54 ?_
      obtain ⟨⟨iS3_10, sS3_11⟩, hc_12, hf⟩ := bd_i hf
      refine r_cvv (As := [.ref (uS 0)]) (rest := []) X sm_X10_322 (c_X6_copyFrom l G N uS3 uS iS3 sS3 iS sS hc_12) hP hD hS hA 59 rfl rfl [59, 60, 61, 62, 63, 17, 18, 19, 20, 21] rfl rfl rfl (wo := (gX G uX xX0 (uC 0) xX2 (uM 0) xX4 xX7 xX8 xX9 (uS 0) xX11 (uI 0) (uI2 0) qX iX ++ gC G uC iC tC sC ++ gM G uM (uC 0) iM sM ++ gS G uS iS sS ++ gI G uI (uC2 0) (uM2 0) (uS2 0) iI ++ gC G uC2 iC2 tC2 sC2 ++ gM G uM2 (uC2 0) iM2 sM2 ++ gS G uS2 iS2 sS2 ++ gI G uI2 (uC3 0) (uM3 0) (uS3 0) iI2 ++ gC G uC3 iC3_3 tC3_4 sC3_5 ++ gM G uM3 (uC3 0) iM3_7 sM3_8 ++ gS G uS3 iS3_10 sS3_11)) rfl rfl hl.1 (lv_room (Nat.le_of_ble_eq_true rfl)) ⟨Nat.le_of_ble_eq_true rfl, Nat.le_of_ble_eq_true rfl⟩ ⟨Nat.zero_le _, Nat.zero_le _⟩ dX10_image_57 (fun H locs hP hD hS => ?_)
      refine lv_aload_n X.hx X.hb dX10_image_60 rfl (lv_at hl 0 rfl) ?_
      refine lv_iconst (v := 1) X.hx X.hb dX10_image_61 (by decide) ?_
      refine pf_X10_343 X hP hD hS 43 rfl (by decide) (by decide) (Nat.le_of_ble_eq_true rfl) (wo := (gX G uX xX0 (uC 0) xX2 (uM 0) xX4 xX7 xX8 xX9 (uS 0) xX11 (uI 0) (uI2 0) qX iX ++ gC G uC iC tC sC ++ gM G uM (uC 0) iM sM ++ gS G uS iS sS ++ gI G uI (uC2 0) (uM2 0) (uS2 0) iI ++ gC G uC2 iC2 tC2 sC2 ++ gM G uM2 (uC2 0) iM2 sM2 ++ gS G uS2 iS2 sS2 ++ gI G uI2 (uC3 0) (uM3 0) (uS3 0) (va_up iI2 0 1) ++ gC G uC3 iC3_3 tC3_4 sC3_5 ++ gM G uM3 (uC3 0) iM3_7 sM3_8 ++ gS G uS3 iS3_10 sS3_11)) rfl dX10_image_62 (fun H locs hP hD hS => ?_)
      refine lv_iconst (v := 1) X.hx X.hb dX10_image_65 (by decide) ?_
      cases hf
      subst hQ
      exact r_zret X hP hD hS (by decide) dX10_image_66
    · replace hf := if_t hf hc_2
      refine lv_aload_n X.hx X.hb dX10_image_15 rfl (lv_at hl 0 rfl) ?_
      refine gf_X10_94 X hP 0 rfl (v := .ref (uI 0)) rfl dX10_image_16 ?_
      refine lv_goto (tgt := 26) X.hx X.hb dX10_image_19 (by decide) ?_
      refine lv_astore_n (lv' := [(2, .ref (uI 0)), (0, .ref (uX 0)), (1, .int p1)]) X.hx X.hb dX10_image_26 rfl hl (by decide) rfl (fun ls hl => ?_)
      refine lv_aload_n X.hx X.hb dX10_image_27 rfl (lv_at hl 0 rfl) ?_
      refine gf_X10_340 X hP 22 rfl (v := .ref (uC2 0)) rfl dX10_image_28 ?_
      refine lv_aload_n X.hx X.hb dX10_image_31 rfl (lv_at hl 1 rfl) ?_
      refine gf_X10_19 X hP 0 rfl (v := .ref (uC 0)) rfl dX10_image_32 ?_
      obtain ⟨⟨iC2_13, tC2_14, sC2_15⟩, hc_16, hf⟩ := bd_i hf
      refine r_cvv (As := [.ref (uC 0)]) (rest := []) X sm_X10_125 (c_X1_copyFrom l G N uC2 uC iC2 tC2 sC2 iC tC sC hc_16) hP hD hS hA 23 rfl rfl [23, 24, 25, 26, 27, 28, 29, 30, 2, 3, 4, 5, 6, 7, 8, 9] rfl rfl rfl (wo := (gX G uX xX0 (uC 0) xX2 (uM 0) xX4 xX7 xX8 xX9 (uS 0) xX11 (uI 0) (uI2 0) qX iX ++ gC G uC iC tC sC ++ gM G uM (uC 0) iM sM ++ gS G uS iS sS ++ gI G uI (uC2 0) (uM2 0) (uS2 0) iI ++ gC G uC2 iC2_13 tC2_14 sC2_15 ++ gM G uM2 (uC2 0) iM2 sM2 ++ gS G uS2 iS2 sS2 ++ gI G uI2 (uC3 0) (uM3 0) (uS3 0) iI2 ++ gC G uC3 iC3 tC3 sC3 ++ gM G uM3 (uC3 0) iM3 sM3 ++ gS G uS3 iS3 sS3)) rfl rfl hl.1 (lv_room (Nat.le_of_ble_eq_true rfl)) ⟨Nat.le_of_ble_eq_true rfl, Nat.le_of_ble_eq_true rfl⟩ ⟨Nat.zero_le _, Nat.zero_le _⟩ dX10_image_35 (fun H locs hP hD hS => ?_)
      refine lv_aload_n X.hx X.hb dX10_image_38 rfl (lv_at hl 0 rfl) ?_
      refine gf_X10_341 X hP 22 rfl (v := .ref (uM2 0)) rfl dX10_image_39 ?_
      refine lv_aload_n X.hx X.hb dX10_image_42 rfl (lv_at hl 1 rfl) ?_
      refine gf_X10_37 X hP 0 rfl (v := .ref (uM 0)) rfl dX10_image_43 ?_
      obtain ⟨⟨iM2_17, sM2_18⟩, hc_19, hf⟩ := bd_i hf
      refine r_cvv (As := [.ref (uM 0)]) (rest := []) X sm_X10_244 (c_X4_copyFrom l G N uM2 uM (uC2 0) (uC 0) iM2 sM2 iM sM hc_19) hP hD hS hA 31 rfl rfl [31, 32, 33, 34, 35, 36, 37, 10, 11, 12, 13, 14, 15, 16] rfl rfl rfl (wo := (gX G uX xX0 (uC 0) xX2 (uM 0) xX4 xX7 xX8 xX9 (uS 0) xX11 (uI 0) (uI2 0) qX iX ++ gC G uC iC tC sC ++ gM G uM (uC 0) iM sM ++ gS G uS iS sS ++ gI G uI (uC2 0) (uM2 0) (uS2 0) iI ++ gC G uC2 iC2_13 tC2_14 sC2_15 ++ gM G uM2 (uC2 0) iM2_17 sM2_18 ++ gS G uS2 iS2 sS2 ++ gI G uI2 (uC3 0) (uM3 0) (uS3 0) iI2 ++ gC G uC3 iC3 tC3 sC3 ++ gM G uM3 (uC3 0) iM3 sM3 ++ gS G uS3 iS3 sS3)) rfl rfl hl.1 (lv_room (Nat.le_of_ble_eq_true rfl)) ⟨Nat.le_of_ble_eq_true rfl, Nat.le_of_ble_eq_true rfl⟩ ⟨Nat.zero_le _, Nat.zero_le _⟩ dX10_image_46 (fun H locs hP hD hS => ?_)
      refine lv_aload_n X.hx X.hb dX10_image_49 rfl (lv_at hl 0 rfl) ?_
      refine gf_X10_342 X hP 22 rfl (v := .ref (uS2 0)) rfl dX10_image_50 ?_
      refine lv_aload_n X.hx X.hb dX10_image_53 rfl (lv_at hl 1 rfl) ?_
      refine gf_X10_80 X hP 0 rfl (v := .ref (uS 0)) rfl dX10_image_54 ?_
      obtain ⟨⟨iS2_20, sS2_21⟩, hc_22, hf⟩ := bd_i hf
      refine r_cvv (As := [.ref (uS 0)]) (rest := []) X sm_X10_322 (c_X6_copyFrom l G N uS2 uS iS2 sS2 iS sS hc_22) hP hD hS hA 38 rfl rfl [38, 39, 40, 41, 42, 17, 18, 19, 20, 21] rfl rfl rfl (wo := (gX G uX xX0 (uC 0) xX2 (uM 0) xX4 xX7 xX8 xX9 (uS 0) xX11 (uI 0) (uI2 0) qX iX ++ gC G uC iC tC sC ++ gM G uM (uC 0) iM sM ++ gS G uS iS sS ++ gI G uI (uC2 0) (uM2 0) (uS2 0) iI ++ gC G uC2 iC2_13 tC2_14 sC2_15 ++ gM G uM2 (uC2 0) iM2_17 sM2_18 ++ gS G uS2 iS2_20 sS2_21 ++ gI G uI2 (uC3 0) (uM3 0) (uS3 0) iI2 ++ gC G uC3 iC3 tC3 sC3 ++ gM G uM3 (uC3 0) iM3 sM3 ++ gS G uS3 iS3 sS3)) rfl rfl hl.1 (lv_room (Nat.le_of_ble_eq_true rfl)) ⟨Nat.le_of_ble_eq_true rfl, Nat.le_of_ble_eq_true rfl⟩ ⟨Nat.zero_le _, Nat.zero_le _⟩ dX10_image_57 (fun H locs hP hD hS => ?_)
      refine lv_aload_n X.hx X.hb dX10_image_60 rfl (lv_at hl 0 rfl) ?_
      refine lv_iconst (v := 1) X.hx X.hb dX10_image_61 (by decide) ?_
      refine pf_X10_343 X hP hD hS 22 rfl (by decide) (by decide) (Nat.le_of_ble_eq_true rfl) (wo := (gX G uX xX0 (uC 0) xX2 (uM 0) xX4 xX7 xX8 xX9 (uS 0) xX11 (uI 0) (uI2 0) qX iX ++ gC G uC iC tC sC ++ gM G uM (uC 0) iM sM ++ gS G uS iS sS ++ gI G uI (uC2 0) (uM2 0) (uS2 0) (va_up iI 0 1) ++ gC G uC2 iC2_13 tC2_14 sC2_15 ++ gM G uM2 (uC2 0) iM2_17 sM2_18 ++ gS G uS2 iS2_20 sS2_21 ++ gI G uI2 (uC3 0) (uM3 0) (uS3 0) iI2 ++ gC G uC3 iC3 tC3 sC3 ++ gM G uM3 (uC3 0) iM3 sM3 ++ gS G uS3 iS3 sS3)) rfl dX10_image_62 (fun H locs hP hD hS => ?_)
      refine lv_iconst (v := 1) X.hx X.hb dX10_image_65 (by decide) ?_
      cases hf
      subst hQ
      exact r_zret X hP hD hS (by decide) dX10_image_66
  · replace hf := if_f hf hc_1
    refine lv_iload_n X.hx X.hb dX10_image_4 rfl (lv_at hl 1 rfl) ?_
    refine lv_iconst (v := 1) X.hx X.hb dX10_image_5 (by decide) ?_
    refine lv_icmp_eq (tgt := 11) X.hx X.hb dX10_image_6 (by decide) (fun hc_23 => ?_) (fun hc_23 => ?_)
    · replace hf := if_t hf hc_23
      refine lv_iload_n X.hx X.hb dX10_image_11 rfl (lv_at hl 1 rfl) ?_
      refine lv_if_ne (tgt := 22) X.hx X.hb dX10_image_12 (by decide) (fun hc_24 => ?_) (fun hc_24 => ?_)
      · replace hf := if_f hf hc_24
        refine lv_aload_n X.hx X.hb dX10_image_22 rfl (lv_at hl 0 rfl) ?_
        refine gf_X10_98 X hP 0 rfl (v := .ref (uI2 0)) rfl dX10_image_23 ?_
        refine lv_astore_n (lv' := [(2, .ref (uI2 0)), (0, .ref (uX 0)), (1, .int p1)]) X.hx X.hb dX10_image_26 rfl hl (by decide) rfl (fun ls hl => ?_)
        refine lv_aload_n X.hx X.hb dX10_image_27 rfl (lv_at hl 0 rfl) ?_
        refine gf_X10_340 X hP 43 rfl (v := .ref (uC3 0)) rfl dX10_image_28 ?_
        refine lv_aload_n X.hx X.hb dX10_image_31 rfl (lv_at hl 1 rfl) ?_
        refine gf_X10_19 X hP 0 rfl (v := .ref (uC 0)) rfl dX10_image_32 ?_
        obtain ⟨⟨iC3_25, tC3_26, sC3_27⟩, hc_28, hf⟩ := bd_i hf
        refine r_cvv (As := [.ref (uC 0)]) (rest := []) X sm_X10_125 (c_X1_copyFrom l G N uC3 uC iC3 tC3 sC3 iC tC sC hc_28) hP hD hS hA 44 rfl rfl [44, 45, 46, 47, 48, 49, 50, 51, 2, 3, 4, 5, 6, 7, 8, 9] rfl rfl rfl (wo := (gX G uX xX0 (uC 0) xX2 (uM 0) xX4 xX7 xX8 xX9 (uS 0) xX11 (uI 0) (uI2 0) qX iX ++ gC G uC iC tC sC ++ gM G uM (uC 0) iM sM ++ gS G uS iS sS ++ gI G uI (uC2 0) (uM2 0) (uS2 0) iI ++ gC G uC2 iC2 tC2 sC2 ++ gM G uM2 (uC2 0) iM2 sM2 ++ gS G uS2 iS2 sS2 ++ gI G uI2 (uC3 0) (uM3 0) (uS3 0) iI2 ++ gC G uC3 iC3_25 tC3_26 sC3_27 ++ gM G uM3 (uC3 0) iM3 sM3 ++ gS G uS3 iS3 sS3)) rfl rfl hl.1 (lv_room (Nat.le_of_ble_eq_true rfl)) ⟨Nat.le_of_ble_eq_true rfl, Nat.le_of_ble_eq_true rfl⟩ ⟨Nat.zero_le _, Nat.zero_le _⟩ dX10_image_35 (fun H locs hP hD hS => ?_)
        refine lv_aload_n X.hx X.hb dX10_image_38 rfl (lv_at hl 0 rfl) ?_
        refine gf_X10_341 X hP 43 rfl (v := .ref (uM3 0)) rfl dX10_image_39 ?_
        refine lv_aload_n X.hx X.hb dX10_image_42 rfl (lv_at hl 1 rfl) ?_
        refine gf_X10_37 X hP 0 rfl (v := .ref (uM 0)) rfl dX10_image_43 ?_
        obtain ⟨⟨iM3_29, sM3_30⟩, hc_31, hf⟩ := bd_i hf
        refine r_cvv (As := [.ref (uM 0)]) (rest := []) X sm_X10_244 (c_X4_copyFrom l G N uM3 uM (uC3 0) (uC 0) iM3 sM3 iM sM hc_31) hP hD hS hA 52 rfl rfl [52, 53, 54, 55, 56, 57, 58, 10, 11, 12, 13, 14, 15, 16] rfl rfl rfl (wo := (gX G uX xX0 (uC 0) xX2 (uM 0) xX4 xX7 xX8 xX9 (uS 0) xX11 (uI 0) (uI2 0) qX iX ++ gC G uC iC tC sC ++ gM G uM (uC 0) iM sM ++ gS G uS iS sS ++ gI G uI (uC2 0) (uM2 0) (uS2 0) iI ++ gC G uC2 iC2 tC2 sC2 ++ gM G uM2 (uC2 0) iM2 sM2 ++ gS G uS2 iS2 sS2 ++ gI G uI2 (uC3 0) (uM3 0) (uS3 0) iI2 ++ gC G uC3 iC3_25 tC3_26 sC3_27 ++ gM G uM3 (uC3 0) iM3_29 sM3_30 ++ gS G uS3 iS3 sS3)) rfl rfl hl.1 (lv_room (Nat.le_of_ble_eq_true rfl)) ⟨Nat.le_of_ble_eq_true rfl, Nat.le_of_ble_eq_true rfl⟩ ⟨Nat.zero_le _, Nat.zero_le _⟩ dX10_image_46 (fun H locs hP hD hS => ?_)
        refine lv_aload_n X.hx X.hb dX10_image_49 rfl (lv_at hl 0 rfl) ?_
        refine gf_X10_342 X hP 43 rfl (v := .ref (uS3 0)) rfl dX10_image_50 ?_
        refine lv_aload_n X.hx X.hb dX10_image_53 rfl (lv_at hl 1 rfl) ?_
        refine gf_X10_80 X hP 0 rfl (v := .ref (uS 0)) rfl dX10_image_54 ?_
        obtain ⟨⟨iS3_32, sS3_33⟩, hc_34, hf⟩ := bd_i hf
        refine r_cvv (As := [.ref (uS 0)]) (rest := []) X sm_X10_322 (c_X6_copyFrom l G N uS3 uS iS3 sS3 iS sS hc_34) hP hD hS hA 59 rfl rfl [59, 60, 61, 62, 63, 17, 18, 19, 20, 21] rfl rfl rfl (wo := (gX G uX xX0 (uC 0) xX2 (uM 0) xX4 xX7 xX8 xX9 (uS 0) xX11 (uI 0) (uI2 0) qX iX ++ gC G uC iC tC sC ++ gM G uM (uC 0) iM sM ++ gS G uS iS sS ++ gI G uI (uC2 0) (uM2 0) (uS2 0) iI ++ gC G uC2 iC2 tC2 sC2 ++ gM G uM2 (uC2 0) iM2 sM2 ++ gS G uS2 iS2 sS2 ++ gI G uI2 (uC3 0) (uM3 0) (uS3 0) iI2 ++ gC G uC3 iC3_25 tC3_26 sC3_27 ++ gM G uM3 (uC3 0) iM3_29 sM3_30 ++ gS G uS3 iS3_32 sS3_33)) rfl rfl hl.1 (lv_room (Nat.le_of_ble_eq_true rfl)) ⟨Nat.le_of_ble_eq_true rfl, Nat.le_of_ble_eq_true rfl⟩ ⟨Nat.zero_le _, Nat.zero_le _⟩ dX10_image_57 (fun H locs hP hD hS => ?_)
        refine lv_aload_n X.hx X.hb dX10_image_60 rfl (lv_at hl 0 rfl) ?_
        refine lv_iconst (v := 1) X.hx X.hb dX10_image_61 (by decide) ?_
        refine pf_X10_343 X hP hD hS 43 rfl (by decide) (by decide) (Nat.le_of_ble_eq_true rfl) (wo := (gX G uX xX0 (uC 0) xX2 (uM 0) xX4 xX7 xX8 xX9 (uS 0) xX11 (uI 0) (uI2 0) qX iX ++ gC G uC iC tC sC ++ gM G uM (uC 0) iM sM ++ gS G uS iS sS ++ gI G uI (uC2 0) (uM2 0) (uS2 0) iI ++ gC G uC2 iC2 tC2 sC2 ++ gM G uM2 (uC2 0) iM2 sM2 ++ gS G uS2 iS2 sS2 ++ gI G uI2 (uC3 0) (uM3 0) (uS3 0) (va_up iI2 0 1) ++ gC G uC3 iC3_25 tC3_26 sC3_27 ++ gM G uM3 (uC3 0) iM3_29 sM3_30 ++ gS G uS3 iS3_32 sS3_33)) rfl dX10_image_62 (fun H locs hP hD hS => ?_)
        refine lv_iconst (v := 1) X.hx X.hb dX10_image_65 (by decide) ?_
        cases hf
        subst hQ
        exact r_zret X hP hD hS (by decide) dX10_image_66
      · replace hf := if_t hf hc_24
        refine lv_aload_n X.hx X.hb dX10_image_15 rfl (lv_at hl 0 rfl) ?_
        refine gf_X10_94 X hP 0 rfl (v := .ref (uI 0)) rfl dX10_image_16 ?_
        refine lv_goto (tgt := 26) X.hx X.hb dX10_image_19 (by decide) ?_
        refine lv_astore_n (lv' := [(2, .ref (uI 0)), (0, .ref (uX 0)), (1, .int p1)]) X.hx X.hb dX10_image_26 rfl hl (by decide) rfl (fun ls hl => ?_)
        refine lv_aload_n X.hx X.hb dX10_image_27 rfl (lv_at hl 0 rfl) ?_
        refine gf_X10_340 X hP 22 rfl (v := .ref (uC2 0)) rfl dX10_image_28 ?_
        refine lv_aload_n X.hx X.hb dX10_image_31 rfl (lv_at hl 1 rfl) ?_
        refine gf_X10_19 X hP 0 rfl (v := .ref (uC 0)) rfl dX10_image_32 ?_
        obtain ⟨⟨iC2_35, tC2_36, sC2_37⟩, hc_38, hf⟩ := bd_i hf
        refine r_cvv (As := [.ref (uC 0)]) (rest := []) X sm_X10_125 (c_X1_copyFrom l G N uC2 uC iC2 tC2 sC2 iC tC sC hc_38) hP hD hS hA 23 rfl rfl [23, 24, 25, 26, 27, 28, 29, 30, 2, 3, 4, 5, 6, 7, 8, 9] rfl rfl rfl (wo := (gX G uX xX0 (uC 0) xX2 (uM 0) xX4 xX7 xX8 xX9 (uS 0) xX11 (uI 0) (uI2 0) qX iX ++ gC G uC iC tC sC ++ gM G uM (uC 0) iM sM ++ gS G uS iS sS ++ gI G uI (uC2 0) (uM2 0) (uS2 0) iI ++ gC G uC2 iC2_35 tC2_36 sC2_37 ++ gM G uM2 (uC2 0) iM2 sM2 ++ gS G uS2 iS2 sS2 ++ gI G uI2 (uC3 0) (uM3 0) (uS3 0) iI2 ++ gC G uC3 iC3 tC3 sC3 ++ gM G uM3 (uC3 0) iM3 sM3 ++ gS G uS3 iS3 sS3)) rfl rfl hl.1 (lv_room (Nat.le_of_ble_eq_true rfl)) ⟨Nat.le_of_ble_eq_true rfl, Nat.le_of_ble_eq_true rfl⟩ ⟨Nat.zero_le _, Nat.zero_le _⟩ dX10_image_35 (fun H locs hP hD hS => ?_)
        refine lv_aload_n X.hx X.hb dX10_image_38 rfl (lv_at hl 0 rfl) ?_
        refine gf_X10_341 X hP 22 rfl (v := .ref (uM2 0)) rfl dX10_image_39 ?_
        refine lv_aload_n X.hx X.hb dX10_image_42 rfl (lv_at hl 1 rfl) ?_
        refine gf_X10_37 X hP 0 rfl (v := .ref (uM 0)) rfl dX10_image_43 ?_
        obtain ⟨⟨iM2_39, sM2_40⟩, hc_41, hf⟩ := bd_i hf
        refine r_cvv (As := [.ref (uM 0)]) (rest := []) X sm_X10_244 (c_X4_copyFrom l G N uM2 uM (uC2 0) (uC 0) iM2 sM2 iM sM hc_41) hP hD hS hA 31 rfl rfl [31, 32, 33, 34, 35, 36, 37, 10, 11, 12, 13, 14, 15, 16] rfl rfl rfl (wo := (gX G uX xX0 (uC 0) xX2 (uM 0) xX4 xX7 xX8 xX9 (uS 0) xX11 (uI 0) (uI2 0) qX iX ++ gC G uC iC tC sC ++ gM G uM (uC 0) iM sM ++ gS G uS iS sS ++ gI G uI (uC2 0) (uM2 0) (uS2 0) iI ++ gC G uC2 iC2_35 tC2_36 sC2_37 ++ gM G uM2 (uC2 0) iM2_39 sM2_40 ++ gS G uS2 iS2 sS2 ++ gI G uI2 (uC3 0) (uM3 0) (uS3 0) iI2 ++ gC G uC3 iC3 tC3 sC3 ++ gM G uM3 (uC3 0) iM3 sM3 ++ gS G uS3 iS3 sS3)) rfl rfl hl.1 (lv_room (Nat.le_of_ble_eq_true rfl)) ⟨Nat.le_of_ble_eq_true rfl, Nat.le_of_ble_eq_true rfl⟩ ⟨Nat.zero_le _, Nat.zero_le _⟩ dX10_image_46 (fun H locs hP hD hS => ?_)
        refine lv_aload_n X.hx X.hb dX10_image_49 rfl (lv_at hl 0 rfl) ?_
        refine gf_X10_342 X hP 22 rfl (v := .ref (uS2 0)) rfl dX10_image_50 ?_
        refine lv_aload_n X.hx X.hb dX10_image_53 rfl (lv_at hl 1 rfl) ?_
        refine gf_X10_80 X hP 0 rfl (v := .ref (uS 0)) rfl dX10_image_54 ?_
        obtain ⟨⟨iS2_42, sS2_43⟩, hc_44, hf⟩ := bd_i hf
        refine r_cvv (As := [.ref (uS 0)]) (rest := []) X sm_X10_322 (c_X6_copyFrom l G N uS2 uS iS2 sS2 iS sS hc_44) hP hD hS hA 38 rfl rfl [38, 39, 40, 41, 42, 17, 18, 19, 20, 21] rfl rfl rfl (wo := (gX G uX xX0 (uC 0) xX2 (uM 0) xX4 xX7 xX8 xX9 (uS 0) xX11 (uI 0) (uI2 0) qX iX ++ gC G uC iC tC sC ++ gM G uM (uC 0) iM sM ++ gS G uS iS sS ++ gI G uI (uC2 0) (uM2 0) (uS2 0) iI ++ gC G uC2 iC2_35 tC2_36 sC2_37 ++ gM G uM2 (uC2 0) iM2_39 sM2_40 ++ gS G uS2 iS2_42 sS2_43 ++ gI G uI2 (uC3 0) (uM3 0) (uS3 0) iI2 ++ gC G uC3 iC3 tC3 sC3 ++ gM G uM3 (uC3 0) iM3 sM3 ++ gS G uS3 iS3 sS3)) rfl rfl hl.1 (lv_room (Nat.le_of_ble_eq_true rfl)) ⟨Nat.le_of_ble_eq_true rfl, Nat.le_of_ble_eq_true rfl⟩ ⟨Nat.zero_le _, Nat.zero_le _⟩ dX10_image_57 (fun H locs hP hD hS => ?_)
        refine lv_aload_n X.hx X.hb dX10_image_60 rfl (lv_at hl 0 rfl) ?_
        refine lv_iconst (v := 1) X.hx X.hb dX10_image_61 (by decide) ?_
        refine pf_X10_343 X hP hD hS 22 rfl (by decide) (by decide) (Nat.le_of_ble_eq_true rfl) (wo := (gX G uX xX0 (uC 0) xX2 (uM 0) xX4 xX7 xX8 xX9 (uS 0) xX11 (uI 0) (uI2 0) qX iX ++ gC G uC iC tC sC ++ gM G uM (uC 0) iM sM ++ gS G uS iS sS ++ gI G uI (uC2 0) (uM2 0) (uS2 0) (va_up iI 0 1) ++ gC G uC2 iC2_35 tC2_36 sC2_37 ++ gM G uM2 (uC2 0) iM2_39 sM2_40 ++ gS G uS2 iS2_42 sS2_43 ++ gI G uI2 (uC3 0) (uM3 0) (uS3 0) iI2 ++ gC G uC3 iC3 tC3 sC3 ++ gM G uM3 (uC3 0) iM3 sM3 ++ gS G uS3 iS3 sS3)) rfl dX10_image_62 (fun H locs hP hD hS => ?_)
        refine lv_iconst (v := 1) X.hx X.hb dX10_image_65 (by decide) ?_
        cases hf
        subst hQ
        exact r_zret X hP hD hS (by decide) dX10_image_66
    · replace hf := if_f hf hc_23
      refine lv_iconst (v := 0) X.hx X.hb dX10_image_9 (by decide) ?_
      cases hf
      subst hQ
      exact r_zret X hP hD hS (by decide) dX10_image_10

def f_X10_restore (N : Nat) (qX : Nat → Option Nat) (iX : Nat → Int32) (iC : Nat → Int32) (tC : Nat → Nat → Int64) (sC : Nat → Nat → Int32) (iM : Nat → Int32) (sM : Nat → Nat → Int32) (iS : Nat → Int32) (sS : Nat → Nat → Int32) (iI : Nat → Int32) (iC2 : Nat → Int32) (tC2 : Nat → Nat → Int64) (sC2 : Nat → Nat → Int32) (iM2 : Nat → Int32) (sM2 : Nat → Nat → Int32) (iS2 : Nat → Int32) (sS2 : Nat → Nat → Int32) (iI2 : Nat → Int32) (iC3 : Nat → Int32) (tC3 : Nat → Nat → Int64) (sC3 : Nat → Nat → Int32) (iM3 : Nat → Int32) (sM3 : Nat → Nat → Int32) (iS3 : Nat → Int32) (sS3 : Nat → Nat → Int32) (p1 : Int32) : Option (Int32 × (Nat → Int32) × (Nat → Int32) × (Nat → Nat → Int64) × (Nat → Nat → Int32) × (Nat → Int32) × (Nat → Nat → Int32) × (Nat → Int32) × (Nat → Nat → Int32)) :=
  (if p1 = 0 then (if p1 = 0 then (if (iI 0) = 0 then some (0, iX, iC, tC, sC, iM, sM, iS, sS) else bd (f_X1_copyFrom N iC tC sC iC2 tC2 sC2) (fun (iC_15, tC_16, sC_17) => bd (f_X4_copyFrom N iM sM iM2 sM2) (fun (iM_19, sM_20) => bd (f_X6_copyFrom N iS sS iS2 sS2) (fun (iS_22, sS_23) => some (1, (va_up iX 6 0), iC_15, tC_16, sC_17, iM_19, sM_20, iS_22, sS_23))))) else (if (iI2 0) = 0 then some (0, iX, iC, tC, sC, iM, sM, iS, sS) else bd (f_X1_copyFrom N iC tC sC iC3 tC3 sC3) (fun (iC_4, tC_5, sC_6) => bd (f_X4_copyFrom N iM sM iM3 sM3) (fun (iM_8, sM_9) => bd (f_X6_copyFrom N iS sS iS3 sS3) (fun (iS_11, sS_12) => some (1, (va_up iX 6 0), iC_4, tC_5, sC_6, iM_8, sM_9, iS_11, sS_12)))))) else (if p1 = 1 then (if p1 = 0 then (if (iI 0) = 0 then some (0, iX, iC, tC, sC, iM, sM, iS, sS) else bd (f_X1_copyFrom N iC tC sC iC2 tC2 sC2) (fun (iC_39, tC_40, sC_41) => bd (f_X4_copyFrom N iM sM iM2 sM2) (fun (iM_43, sM_44) => bd (f_X6_copyFrom N iS sS iS2 sS2) (fun (iS_46, sS_47) => some (1, (va_up iX 6 0), iC_39, tC_40, sC_41, iM_43, sM_44, iS_46, sS_47))))) else (if (iI2 0) = 0 then some (0, iX, iC, tC, sC, iM, sM, iS, sS) else bd (f_X1_copyFrom N iC tC sC iC3 tC3 sC3) (fun (iC_28, tC_29, sC_30) => bd (f_X4_copyFrom N iM sM iM3 sM3) (fun (iM_32, sM_33) => bd (f_X6_copyFrom N iS sS iS3 sS3) (fun (iS_35, sS_36) => some (1, (va_up iX 6 0), iC_28, tC_29, sC_30, iM_32, sM_33, iS_35, sS_36)))))) else some (0, iX, iC, tC, sC, iM, sM, iS, sS)))
set_option maxHeartbeats 4000000 in
set_option maxRecDepth 100000 in
theorem c_X10_restore (l : Launch) (G : GT) (N : Nat) (uX uC uM uS uI uC2 uM2 uS2 uI2 uC3 uM3 uS3 : Nat → Nat) (xX0 xX2 xX4 xX7 xX8 xX9 xX11 : Nat) (qX : Nat → Option Nat) (iX : Nat → Int32) (iC : Nat → Int32) (tC : Nat → Nat → Int64) (sC : Nat → Nat → Int32) (iM : Nat → Int32) (sM : Nat → Nat → Int32) (iS : Nat → Int32) (sS : Nat → Nat → Int32) (iI : Nat → Int32) (iC2 : Nat → Int32) (tC2 : Nat → Nat → Int64) (sC2 : Nat → Nat → Int32) (iM2 : Nat → Int32) (sM2 : Nat → Nat → Int32) (iS2 : Nat → Int32) (sS2 : Nat → Nat → Int32) (iI2 : Nat → Int32) (iC3 : Nat → Int32) (tC3 : Nat → Nat → Int64) (sC3 : Nat → Nat → Int32) (iM3 : Nat → Int32) (sM3 : Nat → Nat → Int32) (iS3 : Nat → Int32) (sS3 : Nat → Nat → Int32) (p1 : Int32) {r : Int32} {iX' : Nat → Int32} {iC' : Nat → Int32} {tC' : Nat → Nat → Int64} {sC' : Nat → Nat → Int32} {iM' : Nat → Int32} {sM' : Nat → Nat → Int32} {iS' : Nat → Int32} {sS' : Nat → Nat → Int32} (hf : f_X10_restore N qX iX iC tC sC iM sM iS sS iI iC2 tC2 sC2 iM2 sM2 iS2 sS2 iI2 iC3 tC3 sC3 iM3 sM3 iS3 sS3 p1 = some (r, iX', iC', tC', sC', iM', sM', iS', sS')) : CI l G yX10_restore cX10_restore 3 .boolean 3 [.ref (uX 0), .int p1] (gX G uX xX0 (uC 0) xX2 (uM 0) xX4 xX7 xX8 xX9 (uS 0) xX11 (uI 0) (uI2 0) qX iX ++ gC G uC iC tC sC ++ gM G uM (uC 0) iM sM ++ gS G uS iS sS ++ gI G uI (uC2 0) (uM2 0) (uS2 0) iI ++ gC G uC2 iC2 tC2 sC2 ++ gM G uM2 (uC2 0) iM2 sM2 ++ gS G uS2 iS2 sS2 ++ gI G uI2 (uC3 0) (uM3 0) (uS3 0) iI2 ++ gC G uC3 iC3 tC3 sC3 ++ gM G uM3 (uC3 0) iM3 sM3 ++ gS G uS3 iS3 sS3) r (gX G uX xX0 (uC 0) xX2 (uM 0) xX4 xX7 xX8 xX9 (uS 0) xX11 (uI 0) (uI2 0) qX iX' ++ gC G uC iC' tC' sC' ++ gM G uM (uC 0) iM' sM' ++ gS G uS iS' sS' ++ gI G uI (uC2 0) (uM2 0) (uS2 0) iI ++ gC G uC2 iC2 tC2 sC2 ++ gM G uM2 (uC2 0) iM2 sM2 ++ gS G uS2 iS2 sS2 ++ gI G uI2 (uC3 0) (uM3 0) (uS3 0) iI2 ++ gC G uC3 iC3 tC3 sC3 ++ gM G uM3 (uC3 0) iM3 sM3 ++ gS G uS3 iS3 sS3) := by
  refine CI.of (by decide) (Nat.le_of_ble_eq_true rfl) ?_
  intro p e s m args below meth c A X hA hP hD hS ls hl
  have hl : lv_has ls 3 [(0, .ref (uX 0)), (1, .int p1)] := hl
  generalize hQ : MQ below (QI G A r (gX G uX xX0 (uC 0) xX2 (uM 0) xX4 xX7 xX8 xX9 (uS 0) xX11 (uI 0) (uI2 0) qX iX' ++ gC G uC iC' tC' sC' ++ gM G uM (uC 0) iM' sM' ++ gS G uS iS' sS' ++ gI G uI (uC2 0) (uM2 0) (uS2 0) iI ++ gC G uC2 iC2 tC2 sC2 ++ gM G uM2 (uC2 0) iM2 sM2 ++ gS G uS2 iS2 sS2 ++ gI G uI2 (uC3 0) (uM3 0) (uS3 0) iI2 ++ gC G uC3 iC3 tC3 sC3 ++ gM G uM3 (uC3 0) iM3 sM3 ++ gS G uS3 iS3 sS3)) args s 0 0 A = QQ
  unfold f_X10_restore at hf
  refine lv_iload_n X.hx X.hb dX10_restore_0 rfl (lv_at hl 1 rfl) ?_
  refine lv_if_eq (tgt := 11) X.hx X.hb dX10_restore_1 (by decide) (fun hc_1 => ?_) (fun hc_1 => ?_)
  · replace hf := if_t hf hc_1
    refine lv_iload_n X.hx X.hb dX10_restore_11 rfl (lv_at hl 1 rfl) ?_
    refine lv_if_ne (tgt := 22) X.hx X.hb dX10_restore_12 (by decide) (fun hc_2 => ?_) (fun hc_2 => ?_)
    · replace hf := if_f hf hc_2
      refine lv_aload_n X.hx X.hb dX10_restore_22 rfl (lv_at hl 0 rfl) ?_
      refine gf_X10_98 X hP 0 rfl (v := .ref (uI2 0)) rfl dX10_restore_23 ?_
      refine lv_astore_n (lv' := [(2, .ref (uI2 0)), (0, .ref (uX 0)), (1, .int p1)]) X.hx X.hb dX10_restore_26 rfl hl (by decide) rfl (fun ls hl => ?_)
      refine lv_aload_n X.hx X.hb dX10_restore_27 rfl (lv_at hl 0 rfl) ?_
      refine gf_X10_343 X hP 43 rfl (v := .int (iI2 0)) rfl dX10_restore_28 ?_
      refine lv_if_ne (tgt := 36) X.hx X.hb dX10_restore_31 (by decide) (fun hc_3 => ?_) (fun hc_3 => ?_)
      · replace hf := if_f hf hc_3
        refine lv_aload_n X.hx X.hb dX10_restore_36 rfl (lv_at hl 1 rfl) ?_
        refine gf_X10_19 X hP 0 rfl (v := .ref (uC 0)) rfl dX10_restore_37 ?_
        refine lv_aload_n X.hx X.hb dX10_restore_40 rfl (lv_at hl 0 rfl) ?_
        refine gf_X10_340 X hP 43 rfl (v := .ref (uC3 0)) rfl dX10_restore_41 ?_
        obtain ⟨⟨iC_4, tC_5, sC_6⟩, hc_7, hf⟩ := bd_i hf
        refine r_cvv (As := [.ref (uC3 0)]) (rest := []) X sm_X10_125 (c_X1_copyFrom l G N uC uC3 iC tC sC iC3 tC3 sC3 hc_7) hP hD hS hA 2 rfl rfl [2, 3, 4, 5, 6, 7, 8, 9, 44, 45, 46, 47, 48, 49, 50, 51] rfl rfl rfl (wo := (gX G uX xX0 (uC 0) xX2 (uM 0) xX4 xX7 xX8 xX9 (uS 0) xX11 (uI 0) (uI2 0) qX iX ++ gC G uC iC_4 tC_5 sC_6 ++ gM G uM (uC 0) iM sM ++ gS G uS iS sS ++ gI G uI (uC2 0) (uM2 0) (uS2 0) iI ++ gC G uC2 iC2 tC2 sC2 ++ gM G uM2 (uC2 0) iM2 sM2 ++ gS G uS2 iS2 sS2 ++ gI G uI2 (uC3 0) (uM3 0) (uS3 0) iI2 ++ gC G uC3 iC3 tC3 sC3 ++ gM G uM3 (uC3 0) iM3 sM3 ++ gS G uS3 iS3 sS3)) rfl rfl hl.1 (lv_room (Nat.le_of_ble_eq_true rfl)) ⟨Nat.le_of_ble_eq_true rfl, Nat.le_of_ble_eq_true rfl⟩ ⟨Nat.zero_le _, Nat.zero_le _⟩ dX10_restore_44 (fun H locs hP hD hS => ?_)
        refine lv_aload_n X.hx X.hb dX10_restore_47 rfl (lv_at hl 1 rfl) ?_
        refine gf_X10_37 X hP 0 rfl (v := .ref (uM 0)) rfl dX10_restore_48 ?_
        refine lv_aload_n X.hx X.hb dX10_restore_51 rfl (lv_at hl 0 rfl) ?_
        refine gf_X10_341 X hP 43 rfl (v := .ref (uM3 0)) rfl dX10_restore_52 ?_
        obtain ⟨⟨iM_8, sM_9⟩, hc_10, hf⟩ := bd_i hf
        refine r_cvv (As := [.ref (uM3 0)]) (rest := []) X sm_X10_244 (c_X4_copyFrom l G N uM uM3 (uC 0) (uC3 0) iM sM iM3 sM3 hc_10) hP hD hS hA 10 rfl rfl [10, 11, 12, 13, 14, 15, 16, 52, 53, 54, 55, 56, 57, 58] rfl rfl rfl (wo := (gX G uX xX0 (uC 0) xX2 (uM 0) xX4 xX7 xX8 xX9 (uS 0) xX11 (uI 0) (uI2 0) qX iX ++ gC G uC iC_4 tC_5 sC_6 ++ gM G uM (uC 0) iM_8 sM_9 ++ gS G uS iS sS ++ gI G uI (uC2 0) (uM2 0) (uS2 0) iI ++ gC G uC2 iC2 tC2 sC2 ++ gM G uM2 (uC2 0) iM2 sM2 ++ gS G uS2 iS2 sS2 ++ gI G uI2 (uC3 0) (uM3 0) (uS3 0) iI2 ++ gC G uC3 iC3 tC3 sC3 ++ gM G uM3 (uC3 0) iM3 sM3 ++ gS G uS3 iS3 sS3)) rfl rfl hl.1 (lv_room (Nat.le_of_ble_eq_true rfl)) ⟨Nat.le_of_ble_eq_true rfl, Nat.le_of_ble_eq_true rfl⟩ ⟨Nat.zero_le _, Nat.zero_le _⟩ dX10_restore_55 (fun H locs hP hD hS => ?_)
        refine lv_aload_n X.hx X.hb dX10_restore_58 rfl (lv_at hl 1 rfl) ?_
        refine gf_X10_80 X hP 0 rfl (v := .ref (uS 0)) rfl dX10_restore_59 ?_
        refine lv_aload_n X.hx X.hb dX10_restore_62 rfl (lv_at hl 0 rfl) ?_
        refine gf_X10_342 X hP 43 rfl (v := .ref (uS3 0)) rfl dX10_restore_63 ?_
        obtain ⟨⟨iS_11, sS_12⟩, hc_13, hf⟩ := bd_i hf
        refine r_cvv (As := [.ref (uS3 0)]) (rest := []) X sm_X10_322 (c_X6_copyFrom l G N uS uS3 iS sS iS3 sS3 hc_13) hP hD hS hA 17 rfl rfl [17, 18, 19, 20, 21, 59, 60, 61, 62, 63] rfl rfl rfl (wo := (gX G uX xX0 (uC 0) xX2 (uM 0) xX4 xX7 xX8 xX9 (uS 0) xX11 (uI 0) (uI2 0) qX iX ++ gC G uC iC_4 tC_5 sC_6 ++ gM G uM (uC 0) iM_8 sM_9 ++ gS G uS iS_11 sS_12 ++ gI G uI (uC2 0) (uM2 0) (uS2 0) iI ++ gC G uC2 iC2 tC2 sC2 ++ gM G uM2 (uC2 0) iM2 sM2 ++ gS G uS2 iS2 sS2 ++ gI G uI2 (uC3 0) (uM3 0) (uS3 0) iI2 ++ gC G uC3 iC3 tC3 sC3 ++ gM G uM3 (uC3 0) iM3 sM3 ++ gS G uS3 iS3 sS3)) rfl rfl hl.1 (lv_room (Nat.le_of_ble_eq_true rfl)) ⟨Nat.le_of_ble_eq_true rfl, Nat.le_of_ble_eq_true rfl⟩ ⟨Nat.zero_le _, Nat.zero_le _⟩ dX10_restore_66 (fun H locs hP hD hS => ?_)
        refine lv_aload_n X.hx X.hb dX10_restore_69 rfl (lv_at hl 1 rfl) ?_
        refine lv_iconst (v := 0) X.hx X.hb dX10_restore_70 (by decide) ?_
        refine pf_X10_48 X hP hD hS 0 rfl rfl rfl (Nat.le_of_ble_eq_true rfl) (wo := (gX G uX xX0 (uC 0) xX2 (uM 0) xX4 xX7 xX8 xX9 (uS 0) xX11 (uI 0) (uI2 0) qX (va_up iX 6 0) ++ gC G uC iC_4 tC_5 sC_6 ++ gM G uM (uC 0) iM_8 sM_9 ++ gS G uS iS_11 sS_12 ++ gI G uI (uC2 0) (uM2 0) (uS2 0) iI ++ gC G uC2 iC2 tC2 sC2 ++ gM G uM2 (uC2 0) iM2 sM2 ++ gS G uS2 iS2 sS2 ++ gI G uI2 (uC3 0) (uM3 0) (uS3 0) iI2 ++ gC G uC3 iC3 tC3 sC3 ++ gM G uM3 (uC3 0) iM3 sM3 ++ gS G uS3 iS3 sS3)) rfl dX10_restore_71 (fun H locs hP hD hS => ?_)
        refine lv_iconst (v := 1) X.hx X.hb dX10_restore_74 (by decide) ?_
        cases hf
        subst hQ
        exact r_zret X hP hD hS (by decide) dX10_restore_75
      · replace hf := if_t hf hc_3
        refine lv_iconst (v := 0) X.hx X.hb dX10_restore_34 (by decide) ?_
        cases hf
        subst hQ
        exact r_zret X hP hD hS (by decide) dX10_restore_35
    · replace hf := if_t hf hc_2
      refine lv_aload_n X.hx X.hb dX10_restore_15 rfl (lv_at hl 0 rfl) ?_
      refine gf_X10_94 X hP 0 rfl (v := .ref (uI 0)) rfl dX10_restore_16 ?_
      refine lv_goto (tgt := 26) X.hx X.hb dX10_restore_19 (by decide) ?_
      refine lv_astore_n (lv' := [(2, .ref (uI 0)), (0, .ref (uX 0)), (1, .int p1)]) X.hx X.hb dX10_restore_26 rfl hl (by decide) rfl (fun ls hl => ?_)
      refine lv_aload_n X.hx X.hb dX10_restore_27 rfl (lv_at hl 0 rfl) ?_
      refine gf_X10_343 X hP 22 rfl (v := .int (iI 0)) rfl dX10_restore_28 ?_
      refine lv_if_ne (tgt := 36) X.hx X.hb dX10_restore_31 (by decide) (fun hc_14 => ?_) (fun hc_14 => ?_)
      · replace hf := if_f hf hc_14
        refine lv_aload_n X.hx X.hb dX10_restore_36 rfl (lv_at hl 1 rfl) ?_
        refine gf_X10_19 X hP 0 rfl (v := .ref (uC 0)) rfl dX10_restore_37 ?_
        refine lv_aload_n X.hx X.hb dX10_restore_40 rfl (lv_at hl 0 rfl) ?_
        refine gf_X10_340 X hP 22 rfl (v := .ref (uC2 0)) rfl dX10_restore_41 ?_
        obtain ⟨⟨iC_15, tC_16, sC_17⟩, hc_18, hf⟩ := bd_i hf
        refine r_cvv (As := [.ref (uC2 0)]) (rest := []) X sm_X10_125 (c_X1_copyFrom l G N uC uC2 iC tC sC iC2 tC2 sC2 hc_18) hP hD hS hA 2 rfl rfl [2, 3, 4, 5, 6, 7, 8, 9, 23, 24, 25, 26, 27, 28, 29, 30] rfl rfl rfl (wo := (gX G uX xX0 (uC 0) xX2 (uM 0) xX4 xX7 xX8 xX9 (uS 0) xX11 (uI 0) (uI2 0) qX iX ++ gC G uC iC_15 tC_16 sC_17 ++ gM G uM (uC 0) iM sM ++ gS G uS iS sS ++ gI G uI (uC2 0) (uM2 0) (uS2 0) iI ++ gC G uC2 iC2 tC2 sC2 ++ gM G uM2 (uC2 0) iM2 sM2 ++ gS G uS2 iS2 sS2 ++ gI G uI2 (uC3 0) (uM3 0) (uS3 0) iI2 ++ gC G uC3 iC3 tC3 sC3 ++ gM G uM3 (uC3 0) iM3 sM3 ++ gS G uS3 iS3 sS3)) rfl rfl hl.1 (lv_room (Nat.le_of_ble_eq_true rfl)) ⟨Nat.le_of_ble_eq_true rfl, Nat.le_of_ble_eq_true rfl⟩ ⟨Nat.zero_le _, Nat.zero_le _⟩ dX10_restore_44 (fun H locs hP hD hS => ?_)
        refine lv_aload_n X.hx X.hb dX10_restore_47 rfl (lv_at hl 1 rfl) ?_
        refine gf_X10_37 X hP 0 rfl (v := .ref (uM 0)) rfl dX10_restore_48 ?_
        refine lv_aload_n X.hx X.hb dX10_restore_51 rfl (lv_at hl 0 rfl) ?_
        refine gf_X10_341 X hP 22 rfl (v := .ref (uM2 0)) rfl dX10_restore_52 ?_
        obtain ⟨⟨iM_19, sM_20⟩, hc_21, hf⟩ := bd_i hf
        refine r_cvv (As := [.ref (uM2 0)]) (rest := []) X sm_X10_244 (c_X4_copyFrom l G N uM uM2 (uC 0) (uC2 0) iM sM iM2 sM2 hc_21) hP hD hS hA 10 rfl rfl [10, 11, 12, 13, 14, 15, 16, 31, 32, 33, 34, 35, 36, 37] rfl rfl rfl (wo := (gX G uX xX0 (uC 0) xX2 (uM 0) xX4 xX7 xX8 xX9 (uS 0) xX11 (uI 0) (uI2 0) qX iX ++ gC G uC iC_15 tC_16 sC_17 ++ gM G uM (uC 0) iM_19 sM_20 ++ gS G uS iS sS ++ gI G uI (uC2 0) (uM2 0) (uS2 0) iI ++ gC G uC2 iC2 tC2 sC2 ++ gM G uM2 (uC2 0) iM2 sM2 ++ gS G uS2 iS2 sS2 ++ gI G uI2 (uC3 0) (uM3 0) (uS3 0) iI2 ++ gC G uC3 iC3 tC3 sC3 ++ gM G uM3 (uC3 0) iM3 sM3 ++ gS G uS3 iS3 sS3)) rfl rfl hl.1 (lv_room (Nat.le_of_ble_eq_true rfl)) ⟨Nat.le_of_ble_eq_true rfl, Nat.le_of_ble_eq_true rfl⟩ ⟨Nat.zero_le _, Nat.zero_le _⟩ dX10_restore_55 (fun H locs hP hD hS => ?_)
        refine lv_aload_n X.hx X.hb dX10_restore_58 rfl (lv_at hl 1 rfl) ?_
        refine gf_X10_80 X hP 0 rfl (v := .ref (uS 0)) rfl dX10_restore_59 ?_
        refine lv_aload_n X.hx X.hb dX10_restore_62 rfl (lv_at hl 0 rfl) ?_
        refine gf_X10_342 X hP 22 rfl (v := .ref (uS2 0)) rfl dX10_restore_63 ?_
        obtain ⟨⟨iS_22, sS_23⟩, hc_24, hf⟩ := bd_i hf
        refine r_cvv (As := [.ref (uS2 0)]) (rest := []) X sm_X10_322 (c_X6_copyFrom l G N uS uS2 iS sS iS2 sS2 hc_24) hP hD hS hA 17 rfl rfl [17, 18, 19, 20, 21, 38, 39, 40, 41, 42] rfl rfl rfl (wo := (gX G uX xX0 (uC 0) xX2 (uM 0) xX4 xX7 xX8 xX9 (uS 0) xX11 (uI 0) (uI2 0) qX iX ++ gC G uC iC_15 tC_16 sC_17 ++ gM G uM (uC 0) iM_19 sM_20 ++ gS G uS iS_22 sS_23 ++ gI G uI (uC2 0) (uM2 0) (uS2 0) iI ++ gC G uC2 iC2 tC2 sC2 ++ gM G uM2 (uC2 0) iM2 sM2 ++ gS G uS2 iS2 sS2 ++ gI G uI2 (uC3 0) (uM3 0) (uS3 0) iI2 ++ gC G uC3 iC3 tC3 sC3 ++ gM G uM3 (uC3 0) iM3 sM3 ++ gS G uS3 iS3 sS3)) rfl rfl hl.1 (lv_room (Nat.le_of_ble_eq_true rfl)) ⟨Nat.le_of_ble_eq_true rfl, Nat.le_of_ble_eq_true rfl⟩ ⟨Nat.zero_le _, Nat.zero_le _⟩ dX10_restore_66 (fun H locs hP hD hS => ?_)
        refine lv_aload_n X.hx X.hb dX10_restore_69 rfl (lv_at hl 1 rfl) ?_
        refine lv_iconst (v := 0) X.hx X.hb dX10_restore_70 (by decide) ?_
        refine pf_X10_48 X hP hD hS 0 rfl rfl rfl (Nat.le_of_ble_eq_true rfl) (wo := (gX G uX xX0 (uC 0) xX2 (uM 0) xX4 xX7 xX8 xX9 (uS 0) xX11 (uI 0) (uI2 0) qX (va_up iX 6 0) ++ gC G uC iC_15 tC_16 sC_17 ++ gM G uM (uC 0) iM_19 sM_20 ++ gS G uS iS_22 sS_23 ++ gI G uI (uC2 0) (uM2 0) (uS2 0) iI ++ gC G uC2 iC2 tC2 sC2 ++ gM G uM2 (uC2 0) iM2 sM2 ++ gS G uS2 iS2 sS2 ++ gI G uI2 (uC3 0) (uM3 0) (uS3 0) iI2 ++ gC G uC3 iC3 tC3 sC3 ++ gM G uM3 (uC3 0) iM3 sM3 ++ gS G uS3 iS3 sS3)) rfl dX10_restore_71 (fun H locs hP hD hS => ?_)
        refine lv_iconst (v := 1) X.hx X.hb dX10_restore_74 (by decide) ?_
        cases hf
        subst hQ
        exact r_zret X hP hD hS (by decide) dX10_restore_75
      · replace hf := if_t hf hc_14
        refine lv_iconst (v := 0) X.hx X.hb dX10_restore_34 (by decide) ?_
        cases hf
        subst hQ
        exact r_zret X hP hD hS (by decide) dX10_restore_35
  · replace hf := if_f hf hc_1
    refine lv_iload_n X.hx X.hb dX10_restore_4 rfl (lv_at hl 1 rfl) ?_
    refine lv_iconst (v := 1) X.hx X.hb dX10_restore_5 (by decide) ?_
    refine lv_icmp_eq (tgt := 11) X.hx X.hb dX10_restore_6 (by decide) (fun hc_25 => ?_) (fun hc_25 => ?_)
    · replace hf := if_t hf hc_25
      refine lv_iload_n X.hx X.hb dX10_restore_11 rfl (lv_at hl 1 rfl) ?_
      refine lv_if_ne (tgt := 22) X.hx X.hb dX10_restore_12 (by decide) (fun hc_26 => ?_) (fun hc_26 => ?_)
      · replace hf := if_f hf hc_26
        refine lv_aload_n X.hx X.hb dX10_restore_22 rfl (lv_at hl 0 rfl) ?_
        refine gf_X10_98 X hP 0 rfl (v := .ref (uI2 0)) rfl dX10_restore_23 ?_
        refine lv_astore_n (lv' := [(2, .ref (uI2 0)), (0, .ref (uX 0)), (1, .int p1)]) X.hx X.hb dX10_restore_26 rfl hl (by decide) rfl (fun ls hl => ?_)
        refine lv_aload_n X.hx X.hb dX10_restore_27 rfl (lv_at hl 0 rfl) ?_
        refine gf_X10_343 X hP 43 rfl (v := .int (iI2 0)) rfl dX10_restore_28 ?_
        refine lv_if_ne (tgt := 36) X.hx X.hb dX10_restore_31 (by decide) (fun hc_27 => ?_) (fun hc_27 => ?_)
        · replace hf := if_f hf hc_27
          refine lv_aload_n X.hx X.hb dX10_restore_36 rfl (lv_at hl 1 rfl) ?_
          refine gf_X10_19 X hP 0 rfl (v := .ref (uC 0)) rfl dX10_restore_37 ?_
          refine lv_aload_n X.hx X.hb dX10_restore_40 rfl (lv_at hl 0 rfl) ?_
          refine gf_X10_340 X hP 43 rfl (v := .ref (uC3 0)) rfl dX10_restore_41 ?_
          obtain ⟨⟨iC_28, tC_29, sC_30⟩, hc_31, hf⟩ := bd_i hf
          refine r_cvv (As := [.ref (uC3 0)]) (rest := []) X sm_X10_125 (c_X1_copyFrom l G N uC uC3 iC tC sC iC3 tC3 sC3 hc_31) hP hD hS hA 2 rfl rfl [2, 3, 4, 5, 6, 7, 8, 9, 44, 45, 46, 47, 48, 49, 50, 51] rfl rfl rfl (wo := (gX G uX xX0 (uC 0) xX2 (uM 0) xX4 xX7 xX8 xX9 (uS 0) xX11 (uI 0) (uI2 0) qX iX ++ gC G uC iC_28 tC_29 sC_30 ++ gM G uM (uC 0) iM sM ++ gS G uS iS sS ++ gI G uI (uC2 0) (uM2 0) (uS2 0) iI ++ gC G uC2 iC2 tC2 sC2 ++ gM G uM2 (uC2 0) iM2 sM2 ++ gS G uS2 iS2 sS2 ++ gI G uI2 (uC3 0) (uM3 0) (uS3 0) iI2 ++ gC G uC3 iC3 tC3 sC3 ++ gM G uM3 (uC3 0) iM3 sM3 ++ gS G uS3 iS3 sS3)) rfl rfl hl.1 (lv_room (Nat.le_of_ble_eq_true rfl)) ⟨Nat.le_of_ble_eq_true rfl, Nat.le_of_ble_eq_true rfl⟩ ⟨Nat.zero_le _, Nat.zero_le _⟩ dX10_restore_44 (fun H locs hP hD hS => ?_)
          refine lv_aload_n X.hx X.hb dX10_restore_47 rfl (lv_at hl 1 rfl) ?_
          refine gf_X10_37 X hP 0 rfl (v := .ref (uM 0)) rfl dX10_restore_48 ?_
          refine lv_aload_n X.hx X.hb dX10_restore_51 rfl (lv_at hl 0 rfl) ?_
          refine gf_X10_341 X hP 43 rfl (v := .ref (uM3 0)) rfl dX10_restore_52 ?_
          obtain ⟨⟨iM_32, sM_33⟩, hc_34, hf⟩ := bd_i hf
          refine r_cvv (As := [.ref (uM3 0)]) (rest := []) X sm_X10_244 (c_X4_copyFrom l G N uM uM3 (uC 0) (uC3 0) iM sM iM3 sM3 hc_34) hP hD hS hA 10 rfl rfl [10, 11, 12, 13, 14, 15, 16, 52, 53, 54, 55, 56, 57, 58] rfl rfl rfl (wo := (gX G uX xX0 (uC 0) xX2 (uM 0) xX4 xX7 xX8 xX9 (uS 0) xX11 (uI 0) (uI2 0) qX iX ++ gC G uC iC_28 tC_29 sC_30 ++ gM G uM (uC 0) iM_32 sM_33 ++ gS G uS iS sS ++ gI G uI (uC2 0) (uM2 0) (uS2 0) iI ++ gC G uC2 iC2 tC2 sC2 ++ gM G uM2 (uC2 0) iM2 sM2 ++ gS G uS2 iS2 sS2 ++ gI G uI2 (uC3 0) (uM3 0) (uS3 0) iI2 ++ gC G uC3 iC3 tC3 sC3 ++ gM G uM3 (uC3 0) iM3 sM3 ++ gS G uS3 iS3 sS3)) rfl rfl hl.1 (lv_room (Nat.le_of_ble_eq_true rfl)) ⟨Nat.le_of_ble_eq_true rfl, Nat.le_of_ble_eq_true rfl⟩ ⟨Nat.zero_le _, Nat.zero_le _⟩ dX10_restore_55 (fun H locs hP hD hS => ?_)
          refine lv_aload_n X.hx X.hb dX10_restore_58 rfl (lv_at hl 1 rfl) ?_
          refine gf_X10_80 X hP 0 rfl (v := .ref (uS 0)) rfl dX10_restore_59 ?_
          refine lv_aload_n X.hx X.hb dX10_restore_62 rfl (lv_at hl 0 rfl) ?_
          refine gf_X10_342 X hP 43 rfl (v := .ref (uS3 0)) rfl dX10_restore_63 ?_
          obtain ⟨⟨iS_35, sS_36⟩, hc_37, hf⟩ := bd_i hf
          refine r_cvv (As := [.ref (uS3 0)]) (rest := []) X sm_X10_322 (c_X6_copyFrom l G N uS uS3 iS sS iS3 sS3 hc_37) hP hD hS hA 17 rfl rfl [17, 18, 19, 20, 21, 59, 60, 61, 62, 63] rfl rfl rfl (wo := (gX G uX xX0 (uC 0) xX2 (uM 0) xX4 xX7 xX8 xX9 (uS 0) xX11 (uI 0) (uI2 0) qX iX ++ gC G uC iC_28 tC_29 sC_30 ++ gM G uM (uC 0) iM_32 sM_33 ++ gS G uS iS_35 sS_36 ++ gI G uI (uC2 0) (uM2 0) (uS2 0) iI ++ gC G uC2 iC2 tC2 sC2 ++ gM G uM2 (uC2 0) iM2 sM2 ++ gS G uS2 iS2 sS2 ++ gI G uI2 (uC3 0) (uM3 0) (uS3 0) iI2 ++ gC G uC3 iC3 tC3 sC3 ++ gM G uM3 (uC3 0) iM3 sM3 ++ gS G uS3 iS3 sS3)) rfl rfl hl.1 (lv_room (Nat.le_of_ble_eq_true rfl)) ⟨Nat.le_of_ble_eq_true rfl, Nat.le_of_ble_eq_true rfl⟩ ⟨Nat.zero_le _, Nat.zero_le _⟩ dX10_restore_66 (fun H locs hP hD hS => ?_)
          refine lv_aload_n X.hx X.hb dX10_restore_69 rfl (lv_at hl 1 rfl) ?_
          refine lv_iconst (v := 0) X.hx X.hb dX10_restore_70 (by decide) ?_
          refine pf_X10_48 X hP hD hS 0 rfl rfl rfl (Nat.le_of_ble_eq_true rfl) (wo := (gX G uX xX0 (uC 0) xX2 (uM 0) xX4 xX7 xX8 xX9 (uS 0) xX11 (uI 0) (uI2 0) qX (va_up iX 6 0) ++ gC G uC iC_28 tC_29 sC_30 ++ gM G uM (uC 0) iM_32 sM_33 ++ gS G uS iS_35 sS_36 ++ gI G uI (uC2 0) (uM2 0) (uS2 0) iI ++ gC G uC2 iC2 tC2 sC2 ++ gM G uM2 (uC2 0) iM2 sM2 ++ gS G uS2 iS2 sS2 ++ gI G uI2 (uC3 0) (uM3 0) (uS3 0) iI2 ++ gC G uC3 iC3 tC3 sC3 ++ gM G uM3 (uC3 0) iM3 sM3 ++ gS G uS3 iS3 sS3)) rfl dX10_restore_71 (fun H locs hP hD hS => ?_)
          refine lv_iconst (v := 1) X.hx X.hb dX10_restore_74 (by decide) ?_
          cases hf
          subst hQ
          exact r_zret X hP hD hS (by decide) dX10_restore_75
        · replace hf := if_t hf hc_27
          refine lv_iconst (v := 0) X.hx X.hb dX10_restore_34 (by decide) ?_
          cases hf
          subst hQ
          exact r_zret X hP hD hS (by decide) dX10_restore_35
      · replace hf := if_t hf hc_26
        refine lv_aload_n X.hx X.hb dX10_restore_15 rfl (lv_at hl 0 rfl) ?_
        refine gf_X10_94 X hP 0 rfl (v := .ref (uI 0)) rfl dX10_restore_16 ?_
        refine lv_goto (tgt := 26) X.hx X.hb dX10_restore_19 (by decide) ?_
        refine lv_astore_n (lv' := [(2, .ref (uI 0)), (0, .ref (uX 0)), (1, .int p1)]) X.hx X.hb dX10_restore_26 rfl hl (by decide) rfl (fun ls hl => ?_)
        refine lv_aload_n X.hx X.hb dX10_restore_27 rfl (lv_at hl 0 rfl) ?_
        refine gf_X10_343 X hP 22 rfl (v := .int (iI 0)) rfl dX10_restore_28 ?_
        refine lv_if_ne (tgt := 36) X.hx X.hb dX10_restore_31 (by decide) (fun hc_38 => ?_) (fun hc_38 => ?_)
        · replace hf := if_f hf hc_38
          refine lv_aload_n X.hx X.hb dX10_restore_36 rfl (lv_at hl 1 rfl) ?_
          refine gf_X10_19 X hP 0 rfl (v := .ref (uC 0)) rfl dX10_restore_37 ?_
          refine lv_aload_n X.hx X.hb dX10_restore_40 rfl (lv_at hl 0 rfl) ?_
          refine gf_X10_340 X hP 22 rfl (v := .ref (uC2 0)) rfl dX10_restore_41 ?_
          obtain ⟨⟨iC_39, tC_40, sC_41⟩, hc_42, hf⟩ := bd_i hf
          refine r_cvv (As := [.ref (uC2 0)]) (rest := []) X sm_X10_125 (c_X1_copyFrom l G N uC uC2 iC tC sC iC2 tC2 sC2 hc_42) hP hD hS hA 2 rfl rfl [2, 3, 4, 5, 6, 7, 8, 9, 23, 24, 25, 26, 27, 28, 29, 30] rfl rfl rfl (wo := (gX G uX xX0 (uC 0) xX2 (uM 0) xX4 xX7 xX8 xX9 (uS 0) xX11 (uI 0) (uI2 0) qX iX ++ gC G uC iC_39 tC_40 sC_41 ++ gM G uM (uC 0) iM sM ++ gS G uS iS sS ++ gI G uI (uC2 0) (uM2 0) (uS2 0) iI ++ gC G uC2 iC2 tC2 sC2 ++ gM G uM2 (uC2 0) iM2 sM2 ++ gS G uS2 iS2 sS2 ++ gI G uI2 (uC3 0) (uM3 0) (uS3 0) iI2 ++ gC G uC3 iC3 tC3 sC3 ++ gM G uM3 (uC3 0) iM3 sM3 ++ gS G uS3 iS3 sS3)) rfl rfl hl.1 (lv_room (Nat.le_of_ble_eq_true rfl)) ⟨Nat.le_of_ble_eq_true rfl, Nat.le_of_ble_eq_true rfl⟩ ⟨Nat.zero_le _, Nat.zero_le _⟩ dX10_restore_44 (fun H locs hP hD hS => ?_)
          refine lv_aload_n X.hx X.hb dX10_restore_47 rfl (lv_at hl 1 rfl) ?_
          refine gf_X10_37 X hP 0 rfl (v := .ref (uM 0)) rfl dX10_restore_48 ?_
          refine lv_aload_n X.hx X.hb dX10_restore_51 rfl (lv_at hl 0 rfl) ?_
          refine gf_X10_341 X hP 22 rfl (v := .ref (uM2 0)) rfl dX10_restore_52 ?_
          obtain ⟨⟨iM_43, sM_44⟩, hc_45, hf⟩ := bd_i hf
          refine r_cvv (As := [.ref (uM2 0)]) (rest := []) X sm_X10_244 (c_X4_copyFrom l G N uM uM2 (uC 0) (uC2 0) iM sM iM2 sM2 hc_45) hP hD hS hA 10 rfl rfl [10, 11, 12, 13, 14, 15, 16, 31, 32, 33, 34, 35, 36, 37] rfl rfl rfl (wo := (gX G uX xX0 (uC 0) xX2 (uM 0) xX4 xX7 xX8 xX9 (uS 0) xX11 (uI 0) (uI2 0) qX iX ++ gC G uC iC_39 tC_40 sC_41 ++ gM G uM (uC 0) iM_43 sM_44 ++ gS G uS iS sS ++ gI G uI (uC2 0) (uM2 0) (uS2 0) iI ++ gC G uC2 iC2 tC2 sC2 ++ gM G uM2 (uC2 0) iM2 sM2 ++ gS G uS2 iS2 sS2 ++ gI G uI2 (uC3 0) (uM3 0) (uS3 0) iI2 ++ gC G uC3 iC3 tC3 sC3 ++ gM G uM3 (uC3 0) iM3 sM3 ++ gS G uS3 iS3 sS3)) rfl rfl hl.1 (lv_room (Nat.le_of_ble_eq_true rfl)) ⟨Nat.le_of_ble_eq_true rfl, Nat.le_of_ble_eq_true rfl⟩ ⟨Nat.zero_le _, Nat.zero_le _⟩ dX10_restore_55 (fun H locs hP hD hS => ?_)
          refine lv_aload_n X.hx X.hb dX10_restore_58 rfl (lv_at hl 1 rfl) ?_
          refine gf_X10_80 X hP 0 rfl (v := .ref (uS 0)) rfl dX10_restore_59 ?_
          refine lv_aload_n X.hx X.hb dX10_restore_62 rfl (lv_at hl 0 rfl) ?_
          refine gf_X10_342 X hP 22 rfl (v := .ref (uS2 0)) rfl dX10_restore_63 ?_
          obtain ⟨⟨iS_46, sS_47⟩, hc_48, hf⟩ := bd_i hf
          refine r_cvv (As := [.ref (uS2 0)]) (rest := []) X sm_X10_322 (c_X6_copyFrom l G N uS uS2 iS sS iS2 sS2 hc_48) hP hD hS hA 17 rfl rfl [17, 18, 19, 20, 21, 38, 39, 40, 41, 42] rfl rfl rfl (wo := (gX G uX xX0 (uC 0) xX2 (uM 0) xX4 xX7 xX8 xX9 (uS 0) xX11 (uI 0) (uI2 0) qX iX ++ gC G uC iC_39 tC_40 sC_41 ++ gM G uM (uC 0) iM_43 sM_44 ++ gS G uS iS_46 sS_47 ++ gI G uI (uC2 0) (uM2 0) (uS2 0) iI ++ gC G uC2 iC2 tC2 sC2 ++ gM G uM2 (uC2 0) iM2 sM2 ++ gS G uS2 iS2 sS2 ++ gI G uI2 (uC3 0) (uM3 0) (uS3 0) iI2 ++ gC G uC3 iC3 tC3 sC3 ++ gM G uM3 (uC3 0) iM3 sM3 ++ gS G uS3 iS3 sS3)) rfl rfl hl.1 (lv_room (Nat.le_of_ble_eq_true rfl)) ⟨Nat.le_of_ble_eq_true rfl, Nat.le_of_ble_eq_true rfl⟩ ⟨Nat.zero_le _, Nat.zero_le _⟩ dX10_restore_66 (fun H locs hP hD hS => ?_)
          refine lv_aload_n X.hx X.hb dX10_restore_69 rfl (lv_at hl 1 rfl) ?_
          refine lv_iconst (v := 0) X.hx X.hb dX10_restore_70 (by decide) ?_
          refine pf_X10_48 X hP hD hS 0 rfl rfl rfl (Nat.le_of_ble_eq_true rfl) (wo := (gX G uX xX0 (uC 0) xX2 (uM 0) xX4 xX7 xX8 xX9 (uS 0) xX11 (uI 0) (uI2 0) qX (va_up iX 6 0) ++ gC G uC iC_39 tC_40 sC_41 ++ gM G uM (uC 0) iM_43 sM_44 ++ gS G uS iS_46 sS_47 ++ gI G uI (uC2 0) (uM2 0) (uS2 0) iI ++ gC G uC2 iC2 tC2 sC2 ++ gM G uM2 (uC2 0) iM2 sM2 ++ gS G uS2 iS2 sS2 ++ gI G uI2 (uC3 0) (uM3 0) (uS3 0) iI2 ++ gC G uC3 iC3 tC3 sC3 ++ gM G uM3 (uC3 0) iM3 sM3 ++ gS G uS3 iS3 sS3)) rfl dX10_restore_71 (fun H locs hP hD hS => ?_)
          refine lv_iconst (v := 1) X.hx X.hb dX10_restore_74 (by decide) ?_
          cases hf
          subst hQ
          exact r_zret X hP hD hS (by decide) dX10_restore_75
        · replace hf := if_t hf hc_38
          refine lv_iconst (v := 0) X.hx X.hb dX10_restore_34 (by decide) ?_
          cases hf
          subst hQ
          exact r_zret X hP hD hS (by decide) dX10_restore_35
    · replace hf := if_f hf hc_25
      refine lv_iconst (v := 0) X.hx X.hb dX10_restore_9 (by decide) ?_
      cases hf
      subst hQ
      exact r_zret X hP hD hS (by decide) dX10_restore_10

def f_X10_buy (N : Nat) (iX : Nat → Int32) (iM : Nat → Int32) (sM : Nat → Nat → Int32) (aU : Nat → Nat → Nat) (iU : Nat → Nat → Int32) (sU : Nat → Nat → Nat → Int32) (iC : Nat → Int32) (tC : Nat → Nat → Int64) (sC : Nat → Nat → Int32) (p1 : Int32) (p2 : Int32) (p3 : Int32) : Option (Int32 × (Nat → Int32) × (Nat → Int32) × (Nat → Nat → Int32) × (Nat → Nat → Nat) × (Nat → Nat → Int32) × (Nat → Nat → Nat → Int32)) :=
  bd (f_X1_isPerson N iC tC sC p1) (fun r_1 => (if r_1 = 0 then some ((-1), iX, iM, sM, aU, iU, sU) else bd (f_X1_isGood N iC tC sC p2) (fun r_4 => (if r_4 = 0 then some ((-1), iX, iM, sM, aU, iU, sU) else bd (f_X1_isPerson N iC tC sC p3) (fun r_7 => (if r_7 = 0 then some ((-1), iX, iM, sM, aU, iU, sU) else bd (f_X4_whyNotBuy N iM sM iC tC sC p1 p2 p3) (fun r_10 => (if r_10 = 0 then bd (f_X10_keepU N iX iM sM aU iU sU) (fun (iX_13, aU_14, iU_15, sU_16) => bd (f_X4_doBuy N iM sM iC tC sC p1 p2 p3) (fun (iM_18, sM_19) => some (r_10, iX_13, iM_18, sM_19, aU_14, iU_15, sU_16))) else some (r_10, iX, iM, sM, aU, iU, sU)))))))))
set_option maxHeartbeats 4000000 in
set_option maxRecDepth 100000 in
theorem c_X10_buy (l : Launch) (G : GT) (N : Nat) (uX uM uC : Nat → Nat) (xX0 xX2 xX4 xX7 xX8 xX9 xX10 xX11 xX12 xX13 : Nat) (iX : Nat → Int32) (iM : Nat → Int32) (sM : Nat → Nat → Int32) (aU : Nat → Nat → Nat) (iU : Nat → Nat → Int32) (sU : Nat → Nat → Nat → Int32) (iC : Nat → Int32) (tC : Nat → Nat → Int64) (sC : Nat → Nat → Int32) (p1 : Int32) (p2 : Int32) (p3 : Int32) {r : Int32} {iX' : Nat → Int32} {iM' : Nat → Int32} {sM' : Nat → Nat → Int32} {aU' : Nat → Nat → Nat} {iU' : Nat → Nat → Int32} {sU' : Nat → Nat → Nat → Int32} (hf : f_X10_buy N iX iM sM aU iU sU iC tC sC p1 p2 p3 = some (r, iX', iM', sM', aU', iU', sU')) : CI l G yX10_buy cX10_buy 5 .int 4 [.ref (uX 0), .int p1, .int p2, .int p3] (gX G uX xX0 (uC 0) xX2 (uM 0) xX4 xX7 xX8 xX9 xX10 xX11 xX12 xX13 (kq aU) iX ++ gM G uM (uC 0) iM sM ++ gU G aU (uC 0) iU sU ++ gC G uC iC tC sC) r (gX G uX xX0 (uC 0) xX2 (uM 0) xX4 xX7 xX8 xX9 xX10 xX11 xX12 xX13 (kq aU') iX' ++ gM G uM (uC 0) iM' sM' ++ gU G aU' (uC 0) iU' sU' ++ gC G uC iC tC sC) := by
  refine CI.of (by decide) (Nat.le_of_ble_eq_true rfl) ?_
  intro p e s m args below meth c A X hA hP hD hS ls hl
  have hl : lv_has ls 5 [(0, .ref (uX 0)), (1, .int p1), (2, .int p2), (3, .int p3)] := hl
  generalize hQ : MQ below (QI G A r (gX G uX xX0 (uC 0) xX2 (uM 0) xX4 xX7 xX8 xX9 xX10 xX11 xX12 xX13 (kq aU') iX' ++ gM G uM (uC 0) iM' sM' ++ gU G aU' (uC 0) iU' sU' ++ gC G uC iC tC sC)) args s 0 0 A = QQ
  unfold f_X10_buy at hf
  refine lv_aload_n X.hx X.hb dX10_buy_0 rfl (lv_at hl 0 rfl) ?_
  refine gf_X10_19 X hP 0 rfl (v := .ref (uC 0)) rfl dX10_buy_1 ?_
  refine lv_iload_n X.hx X.hb dX10_buy_4 rfl (lv_at hl 1 rfl) ?_
  obtain ⟨r_1, hc_2, hf⟩ := bd_i hf
  refine r_bvi (gX G uX xX0 (uC 0) xX2 (uM 0) xX4 xX7 xX8 xX9 xX10 xX11 xX12 xX13 (kq aU) iX ++ gM G uM (uC 0) iM sM ++ gU G aU (uC 0) iU sU) ([] : va_W) (As := [.int p1]) (rest := []) X sm_X10_134 (c_X1_isPerson l G N uC iC tC sC p1 hc_2) hP hD hS hA (by simp only [List.append_assoc, List.append_nil, List.nil_append]) (wo := (gX G uX xX0 (uC 0) xX2 (uM 0) xX4 xX7 xX8 xX9 xX10 xX11 xX12 xX13 (kq aU) iX ++ gM G uM (uC 0) iM sM ++ gU G aU (uC 0) iU sU ++ gC G uC iC tC sC)) (by simp only [List.append_assoc, List.append_nil, List.nil_append]) 0 rfl rfl rfl hl.1 (lv_room (Nat.le_of_ble_eq_true rfl)) ⟨Nat.le_of_ble_eq_true rfl, Nat.le_of_ble_eq_true rfl⟩ ⟨Nat.zero_le _, Nat.zero_le _⟩ dX10_buy_5 (fun H locs hP hD hS => ?_)
  refine lv_if_eq (tgt := 33) X.hx X.hb dX10_buy_8 (by decide) (fun hc_3 => ?_) (fun hc_3 => ?_)
  · replace hf := if_t hf hc_3
    refine lv_iconst (v := (-1)) X.hx X.hb dX10_buy_33 (by decide) ?_
    cases hf
    subst hQ
    exact r_iret X hP hD hS dX10_buy_34
  · replace hf := if_f hf hc_3
    refine lv_aload_n X.hx X.hb dX10_buy_11 rfl (lv_at hl 0 rfl) ?_
    refine gf_X10_19 X hP 0 rfl (v := .ref (uC 0)) rfl dX10_buy_12 ?_
    refine lv_iload_n X.hx X.hb dX10_buy_15 rfl (lv_at hl 2 rfl) ?_
    obtain ⟨r_4, hc_5, hf⟩ := bd_i hf
    refine r_bvi (gX G uX xX0 (uC 0) xX2 (uM 0) xX4 xX7 xX8 xX9 xX10 xX11 xX12 xX13 (kq aU) iX ++ gM G uM (uC 0) iM sM ++ gU G aU (uC 0) iU sU) ([] : va_W) (As := [.int p2]) (rest := []) X sm_X10_167 (c_X1_isGood l G N uC iC tC sC p2 hc_5) hP hD hS hA (by simp only [List.append_assoc, List.append_nil, List.nil_append]) (wo := (gX G uX xX0 (uC 0) xX2 (uM 0) xX4 xX7 xX8 xX9 xX10 xX11 xX12 xX13 (kq aU) iX ++ gM G uM (uC 0) iM sM ++ gU G aU (uC 0) iU sU ++ gC G uC iC tC sC)) (by simp only [List.append_assoc, List.append_nil, List.nil_append]) 0 rfl rfl rfl hl.1 (lv_room (Nat.le_of_ble_eq_true rfl)) ⟨Nat.le_of_ble_eq_true rfl, Nat.le_of_ble_eq_true rfl⟩ ⟨Nat.zero_le _, Nat.zero_le _⟩ dX10_buy_16 (fun H locs hP hD hS => ?_)
    refine lv_if_eq (tgt := 33) X.hx X.hb dX10_buy_19 (by decide) (fun hc_6 => ?_) (fun hc_6 => ?_)
    · replace hf := if_t hf hc_6
      refine lv_iconst (v := (-1)) X.hx X.hb dX10_buy_33 (by decide) ?_
      cases hf
      subst hQ
      exact r_iret X hP hD hS dX10_buy_34
    · replace hf := if_f hf hc_6
      refine lv_aload_n X.hx X.hb dX10_buy_22 rfl (lv_at hl 0 rfl) ?_
      refine gf_X10_19 X hP 0 rfl (v := .ref (uC 0)) rfl dX10_buy_23 ?_
      refine lv_iload_n X.hx X.hb dX10_buy_26 rfl (lv_at hl 3 rfl) ?_
      obtain ⟨r_7, hc_8, hf⟩ := bd_i hf
      refine r_bvi (gX G uX xX0 (uC 0) xX2 (uM 0) xX4 xX7 xX8 xX9 xX10 xX11 xX12 xX13 (kq aU) iX ++ gM G uM (uC 0) iM sM ++ gU G aU (uC 0) iU sU) ([] : va_W) (As := [.int p3]) (rest := []) X sm_X10_134 (c_X1_isPerson l G N uC iC tC sC p3 hc_8) hP hD hS hA (by simp only [List.append_assoc, List.append_nil, List.nil_append]) (wo := (gX G uX xX0 (uC 0) xX2 (uM 0) xX4 xX7 xX8 xX9 xX10 xX11 xX12 xX13 (kq aU) iX ++ gM G uM (uC 0) iM sM ++ gU G aU (uC 0) iU sU ++ gC G uC iC tC sC)) (by simp only [List.append_assoc, List.append_nil, List.nil_append]) 0 rfl rfl rfl hl.1 (lv_room (Nat.le_of_ble_eq_true rfl)) ⟨Nat.le_of_ble_eq_true rfl, Nat.le_of_ble_eq_true rfl⟩ ⟨Nat.zero_le _, Nat.zero_le _⟩ dX10_buy_27 (fun H locs hP hD hS => ?_)
      refine lv_if_ne (tgt := 35) X.hx X.hb dX10_buy_30 (by decide) (fun hc_9 => ?_) (fun hc_9 => ?_)
      · replace hf := if_f hf hc_9
        refine lv_aload_n X.hx X.hb dX10_buy_35 rfl (lv_at hl 0 rfl) ?_
        refine gf_X10_37 X hP 0 rfl (v := .ref (uM 0)) rfl dX10_buy_36 ?_
        refine lv_iload_n X.hx X.hb dX10_buy_39 rfl (lv_at hl 1 rfl) ?_
        refine lv_iload_n X.hx X.hb dX10_buy_40 rfl (lv_at hl 2 rfl) ?_
        refine lv_iload_n X.hx X.hb dX10_buy_41 rfl (lv_at hl 3 rfl) ?_
        obtain ⟨r_10, hc_11, hf⟩ := bd_i hf
        refine r_cvi (As := [.int p1, .int p2, .int p3]) (rest := []) X sm_X10_211 (c_X4_whyNotBuy l G N uM uC iM sM iC tC sC p1 p2 p3 hc_11) hP hD hS hA 2 rfl rfl [2, 3, 4, 5, 6, 7, 8, 65, 66, 67, 68, 69, 70, 71, 72] rfl rfl rfl (wo := (gX G uX xX0 (uC 0) xX2 (uM 0) xX4 xX7 xX8 xX9 xX10 xX11 xX12 xX13 (kq aU) iX ++ gM G uM (uC 0) iM sM ++ gU G aU (uC 0) iU sU ++ gC G uC iC tC sC)) rfl rfl hl.1 (lv_room (Nat.le_of_ble_eq_true rfl)) ⟨Nat.le_of_ble_eq_true rfl, Nat.le_of_ble_eq_true rfl⟩ ⟨Nat.zero_le _, Nat.zero_le _⟩ dX10_buy_42 (fun H locs hP hD hS => ?_)
        refine lv_istore (lv' := [(4, .int r_10), (0, .ref (uX 0)), (1, .int p1), (2, .int p2), (3, .int p3)]) X.hx X.hb dX10_buy_45 hl (by decide) rfl (fun ls hl => ?_)
        refine lv_iload X.hx X.hb dX10_buy_47 (lv_at hl 0 rfl) ?_
        refine lv_if_ne (tgt := 66) X.hx X.hb dX10_buy_49 (by decide) (fun hc_12 => ?_) (fun hc_12 => ?_)
        · replace hf := if_f hf hc_12
          refine lv_iload X.hx X.hb dX10_buy_66 (lv_at hl 0 rfl) ?_
          cases hf
          subst hQ
          exact r_iret X hP hD hS dX10_buy_68
        · replace hf := if_t hf hc_12
          refine lv_aload_n X.hx X.hb dX10_buy_52 rfl (lv_at hl 1 rfl) ?_
          obtain ⟨⟨iX_13, aU_14, iU_15, sU_16⟩, hc_17, hf⟩ := bd_i hf
          refine r_bvv ([] : va_W) (gC G uC iC tC sC) (As := []) (rest := []) X sm_X10_215 (c_X10_keepU l G N uX uM xX0 (uC 0) xX2 xX4 xX7 xX8 xX9 xX10 xX11 xX12 xX13 (uC 0) iX iM sM aU iU sU hc_17) hP hD hS hA (by simp only [List.append_assoc, List.append_nil, List.nil_append]) (wo := (gX G uX xX0 (uC 0) xX2 (uM 0) xX4 xX7 xX8 xX9 xX10 xX11 xX12 xX13 (kq aU_14) iX_13 ++ gM G uM (uC 0) iM sM ++ gU G aU_14 (uC 0) iU_15 sU_16 ++ gC G uC iC tC sC)) (by simp only [List.append_assoc, List.append_nil, List.nil_append]) 0 rfl rfl rfl hl.1 (lv_room (Nat.le_of_ble_eq_true rfl)) ⟨Nat.le_of_ble_eq_true rfl, Nat.le_of_ble_eq_true rfl⟩ ⟨Nat.zero_le _, Nat.zero_le _⟩ dX10_buy_53 (fun H locs hP hD hS => ?_)
          refine lv_aload_n X.hx X.hb dX10_buy_56 rfl (lv_at hl 1 rfl) ?_
          refine gf_X10_37 X hP 0 rfl (v := .ref (uM 0)) rfl dX10_buy_57 ?_
          refine lv_iload_n X.hx X.hb dX10_buy_60 rfl (lv_at hl 2 rfl) ?_
          refine lv_iload_n X.hx X.hb dX10_buy_61 rfl (lv_at hl 3 rfl) ?_
          refine lv_iload_n X.hx X.hb dX10_buy_62 rfl (lv_at hl 4 rfl) ?_
          obtain ⟨⟨iM_18, sM_19⟩, hc_20, hf⟩ := bd_i hf
          refine r_cvv (As := [.int p1, .int p2, .int p3]) (rest := []) X sm_X10_218 (c_X4_doBuy l G N uM uC iM sM iC tC sC p1 p2 p3 hc_20) hP hD hS hA 2 rfl rfl [2, 3, 4, 5, 6, 7, 8, 65, 66, 67, 68, 69, 70, 71, 72] rfl rfl rfl (wo := (gX G uX xX0 (uC 0) xX2 (uM 0) xX4 xX7 xX8 xX9 xX10 xX11 xX12 xX13 (kq aU_14) iX_13 ++ gM G uM (uC 0) iM_18 sM_19 ++ gU G aU_14 (uC 0) iU_15 sU_16 ++ gC G uC iC tC sC)) rfl rfl hl.1 (lv_room (Nat.le_of_ble_eq_true rfl)) ⟨Nat.le_of_ble_eq_true rfl, Nat.le_of_ble_eq_true rfl⟩ ⟨Nat.zero_le _, Nat.zero_le _⟩ dX10_buy_63 (fun H locs hP hD hS => ?_)
          refine lv_iload X.hx X.hb dX10_buy_66 (lv_at hl 0 rfl) ?_
          cases hf
          subst hQ
          exact r_iret X hP hD hS dX10_buy_68
      · replace hf := if_t hf hc_9
        refine lv_iconst (v := (-1)) X.hx X.hb dX10_buy_33 (by decide) ?_
        cases hf
        subst hQ
        exact r_iret X hP hD hS dX10_buy_34

def f_X10_nod (N : Nat) (iX : Nat → Int32) (iM : Nat → Int32) (sM : Nat → Nat → Int32) (aU : Nat → Nat → Nat) (iU : Nat → Nat → Int32) (sU : Nat → Nat → Nat → Int32) (iC : Nat → Int32) (tC : Nat → Nat → Int64) (sC : Nat → Nat → Int32) (p1 : Int32) (p2 : Int32) : Option (Int32 × (Nat → Int32) × (Nat → Int32) × (Nat → Nat → Int32) × (Nat → Nat → Nat) × (Nat → Nat → Int32) × (Nat → Nat → Nat → Int32)) :=
  bd (f_X1_isPerson N iC tC sC p1) (fun r_1 => (if r_1 = 0 then some ((-1), iX, iM, sM, aU, iU, sU) else bd (f_X1_isPerson N iC tC sC p2) (fun r_4 => (if r_4 = 0 then some ((-1), iX, iM, sM, aU, iU, sU) else bd (f_X4_whyNotNod N iM sM iC tC sC p1 p2) (fun r_7 => (if r_7 = 0 then bd (f_X10_keepU N iX iM sM aU iU sU) (fun (iX_10, aU_11, iU_12, sU_13) => bd (f_X4_doNod N iM sM iC tC sC p1 p2) (fun (iM_15, sM_16) => some (r_7, iX_10, iM_15, sM_16, aU_11, iU_12, sU_13))) else some (r_7, iX, iM, sM, aU, iU, sU)))))))
set_option maxHeartbeats 4000000 in
set_option maxRecDepth 100000 in
theorem c_X10_nod (l : Launch) (G : GT) (N : Nat) (uX uM uC : Nat → Nat) (xX0 xX2 xX4 xX7 xX8 xX9 xX10 xX11 xX12 xX13 : Nat) (iX : Nat → Int32) (iM : Nat → Int32) (sM : Nat → Nat → Int32) (aU : Nat → Nat → Nat) (iU : Nat → Nat → Int32) (sU : Nat → Nat → Nat → Int32) (iC : Nat → Int32) (tC : Nat → Nat → Int64) (sC : Nat → Nat → Int32) (p1 : Int32) (p2 : Int32) {r : Int32} {iX' : Nat → Int32} {iM' : Nat → Int32} {sM' : Nat → Nat → Int32} {aU' : Nat → Nat → Nat} {iU' : Nat → Nat → Int32} {sU' : Nat → Nat → Nat → Int32} (hf : f_X10_nod N iX iM sM aU iU sU iC tC sC p1 p2 = some (r, iX', iM', sM', aU', iU', sU')) : CI l G yX10_nod cX10_nod 4 .int 4 [.ref (uX 0), .int p1, .int p2] (gX G uX xX0 (uC 0) xX2 (uM 0) xX4 xX7 xX8 xX9 xX10 xX11 xX12 xX13 (kq aU) iX ++ gM G uM (uC 0) iM sM ++ gU G aU (uC 0) iU sU ++ gC G uC iC tC sC) r (gX G uX xX0 (uC 0) xX2 (uM 0) xX4 xX7 xX8 xX9 xX10 xX11 xX12 xX13 (kq aU') iX' ++ gM G uM (uC 0) iM' sM' ++ gU G aU' (uC 0) iU' sU' ++ gC G uC iC tC sC) := by
  refine CI.of (by decide) (Nat.le_of_ble_eq_true rfl) ?_
  intro p e s m args below meth c A X hA hP hD hS ls hl
  have hl : lv_has ls 4 [(0, .ref (uX 0)), (1, .int p1), (2, .int p2)] := hl
  generalize hQ : MQ below (QI G A r (gX G uX xX0 (uC 0) xX2 (uM 0) xX4 xX7 xX8 xX9 xX10 xX11 xX12 xX13 (kq aU') iX' ++ gM G uM (uC 0) iM' sM' ++ gU G aU' (uC 0) iU' sU' ++ gC G uC iC tC sC)) args s 0 0 A = QQ
  unfold f_X10_nod at hf
  refine lv_aload_n X.hx X.hb dX10_nod_0 rfl (lv_at hl 0 rfl) ?_
  refine gf_X10_19 X hP 0 rfl (v := .ref (uC 0)) rfl dX10_nod_1 ?_
  refine lv_iload_n X.hx X.hb dX10_nod_4 rfl (lv_at hl 1 rfl) ?_
  obtain ⟨r_1, hc_2, hf⟩ := bd_i hf
  refine r_bvi (gX G uX xX0 (uC 0) xX2 (uM 0) xX4 xX7 xX8 xX9 xX10 xX11 xX12 xX13 (kq aU) iX ++ gM G uM (uC 0) iM sM ++ gU G aU (uC 0) iU sU) ([] : va_W) (As := [.int p1]) (rest := []) X sm_X10_134 (c_X1_isPerson l G N uC iC tC sC p1 hc_2) hP hD hS hA (by simp only [List.append_assoc, List.append_nil, List.nil_append]) (wo := (gX G uX xX0 (uC 0) xX2 (uM 0) xX4 xX7 xX8 xX9 xX10 xX11 xX12 xX13 (kq aU) iX ++ gM G uM (uC 0) iM sM ++ gU G aU (uC 0) iU sU ++ gC G uC iC tC sC)) (by simp only [List.append_assoc, List.append_nil, List.nil_append]) 0 rfl rfl rfl hl.1 (lv_room (Nat.le_of_ble_eq_true rfl)) ⟨Nat.le_of_ble_eq_true rfl, Nat.le_of_ble_eq_true rfl⟩ ⟨Nat.zero_le _, Nat.zero_le _⟩ dX10_nod_5 (fun H locs hP hD hS => ?_)
  refine lv_if_eq (tgt := 22) X.hx X.hb dX10_nod_8 (by decide) (fun hc_3 => ?_) (fun hc_3 => ?_)
  · replace hf := if_t hf hc_3
    refine lv_iconst (v := (-1)) X.hx X.hb dX10_nod_22 (by decide) ?_
    cases hf
    subst hQ
    exact r_iret X hP hD hS dX10_nod_23
  · replace hf := if_f hf hc_3
    refine lv_aload_n X.hx X.hb dX10_nod_11 rfl (lv_at hl 0 rfl) ?_
    refine gf_X10_19 X hP 0 rfl (v := .ref (uC 0)) rfl dX10_nod_12 ?_
    refine lv_iload_n X.hx X.hb dX10_nod_15 rfl (lv_at hl 2 rfl) ?_
    obtain ⟨r_4, hc_5, hf⟩ := bd_i hf
    refine r_bvi (gX G uX xX0 (uC 0) xX2 (uM 0) xX4 xX7 xX8 xX9 xX10 xX11 xX12 xX13 (kq aU) iX ++ gM G uM (uC 0) iM sM ++ gU G aU (uC 0) iU sU) ([] : va_W) (As := [.int p2]) (rest := []) X sm_X10_134 (c_X1_isPerson l G N uC iC tC sC p2 hc_5) hP hD hS hA (by simp only [List.append_assoc, List.append_nil, List.nil_append]) (wo := (gX G uX xX0 (uC 0) xX2 (uM 0) xX4 xX7 xX8 xX9 xX10 xX11 xX12 xX13 (kq aU) iX ++ gM G uM (uC 0) iM sM ++ gU G aU (uC 0) iU sU ++ gC G uC iC tC sC)) (by simp only [List.append_assoc, List.append_nil, List.nil_append]) 0 rfl rfl rfl hl.1 (lv_room (Nat.le_of_ble_eq_true rfl)) ⟨Nat.le_of_ble_eq_true rfl, Nat.le_of_ble_eq_true rfl⟩ ⟨Nat.zero_le _, Nat.zero_le _⟩ dX10_nod_16 (fun H locs hP hD hS => ?_)
    refine lv_if_ne (tgt := 24) X.hx X.hb dX10_nod_19 (by decide) (fun hc_6 => ?_) (fun hc_6 => ?_)
    · replace hf := if_f hf hc_6
      refine lv_aload_n X.hx X.hb dX10_nod_24 rfl (lv_at hl 0 rfl) ?_
      refine gf_X10_37 X hP 0 rfl (v := .ref (uM 0)) rfl dX10_nod_25 ?_
      refine lv_iload_n X.hx X.hb dX10_nod_28 rfl (lv_at hl 1 rfl) ?_
      refine lv_iload_n X.hx X.hb dX10_nod_29 rfl (lv_at hl 2 rfl) ?_
      obtain ⟨r_7, hc_8, hf⟩ := bd_i hf
      refine r_cvi (As := [.int p1, .int p2]) (rest := []) X sm_X10_222 (c_X4_whyNotNod l G N uM uC iM sM iC tC sC p1 p2 hc_8) hP hD hS hA 2 rfl rfl [2, 3, 4, 5, 6, 7, 8, 65, 66, 67, 68, 69, 70, 71, 72] rfl rfl rfl (wo := (gX G uX xX0 (uC 0) xX2 (uM 0) xX4 xX7 xX8 xX9 xX10 xX11 xX12 xX13 (kq aU) iX ++ gM G uM (uC 0) iM sM ++ gU G aU (uC 0) iU sU ++ gC G uC iC tC sC)) rfl rfl hl.1 (lv_room (Nat.le_of_ble_eq_true rfl)) ⟨Nat.le_of_ble_eq_true rfl, Nat.le_of_ble_eq_true rfl⟩ ⟨Nat.zero_le _, Nat.zero_le _⟩ dX10_nod_30 (fun H locs hP hD hS => ?_)
      refine lv_istore_n (lv' := [(3, .int r_7), (0, .ref (uX 0)), (1, .int p1), (2, .int p2)]) X.hx X.hb dX10_nod_33 rfl hl (by decide) rfl (fun ls hl => ?_)
      refine lv_iload_n X.hx X.hb dX10_nod_34 rfl (lv_at hl 0 rfl) ?_
      refine lv_if_ne (tgt := 51) X.hx X.hb dX10_nod_35 (by decide) (fun hc_9 => ?_) (fun hc_9 => ?_)
      · replace hf := if_f hf hc_9
        refine lv_iload_n X.hx X.hb dX10_nod_51 rfl (lv_at hl 0 rfl) ?_
        cases hf
        subst hQ
        exact r_iret X hP hD hS dX10_nod_52
      · replace hf := if_t hf hc_9
        refine lv_aload_n X.hx X.hb dX10_nod_38 rfl (lv_at hl 1 rfl) ?_
        obtain ⟨⟨iX_10, aU_11, iU_12, sU_13⟩, hc_14, hf⟩ := bd_i hf
        refine r_bvv ([] : va_W) (gC G uC iC tC sC) (As := []) (rest := []) X sm_X10_215 (c_X10_keepU l G N uX uM xX0 (uC 0) xX2 xX4 xX7 xX8 xX9 xX10 xX11 xX12 xX13 (uC 0) iX iM sM aU iU sU hc_14) hP hD hS hA (by simp only [List.append_assoc, List.append_nil, List.nil_append]) (wo := (gX G uX xX0 (uC 0) xX2 (uM 0) xX4 xX7 xX8 xX9 xX10 xX11 xX12 xX13 (kq aU_11) iX_10 ++ gM G uM (uC 0) iM sM ++ gU G aU_11 (uC 0) iU_12 sU_13 ++ gC G uC iC tC sC)) (by simp only [List.append_assoc, List.append_nil, List.nil_append]) 0 rfl rfl rfl hl.1 (lv_room (Nat.le_of_ble_eq_true rfl)) ⟨Nat.le_of_ble_eq_true rfl, Nat.le_of_ble_eq_true rfl⟩ ⟨Nat.zero_le _, Nat.zero_le _⟩ dX10_nod_39 (fun H locs hP hD hS => ?_)
        refine lv_aload_n X.hx X.hb dX10_nod_42 rfl (lv_at hl 1 rfl) ?_
        refine gf_X10_37 X hP 0 rfl (v := .ref (uM 0)) rfl dX10_nod_43 ?_
        refine lv_iload_n X.hx X.hb dX10_nod_46 rfl (lv_at hl 2 rfl) ?_
        refine lv_iload_n X.hx X.hb dX10_nod_47 rfl (lv_at hl 3 rfl) ?_
        obtain ⟨⟨iM_15, sM_16⟩, hc_17, hf⟩ := bd_i hf
        refine r_cvv (As := [.int p1, .int p2]) (rest := []) X sm_X10_225 (c_X4_doNod l G N uM uC iM sM iC tC sC p1 p2 hc_17) hP hD hS hA 2 rfl rfl [2, 3, 4, 5, 6, 7, 8, 65, 66, 67, 68, 69, 70, 71, 72] rfl rfl rfl (wo := (gX G uX xX0 (uC 0) xX2 (uM 0) xX4 xX7 xX8 xX9 xX10 xX11 xX12 xX13 (kq aU_11) iX_10 ++ gM G uM (uC 0) iM_15 sM_16 ++ gU G aU_11 (uC 0) iU_12 sU_13 ++ gC G uC iC tC sC)) rfl rfl hl.1 (lv_room (Nat.le_of_ble_eq_true rfl)) ⟨Nat.le_of_ble_eq_true rfl, Nat.le_of_ble_eq_true rfl⟩ ⟨Nat.zero_le _, Nat.zero_le _⟩ dX10_nod_48 (fun H locs hP hD hS => ?_)
        refine lv_iload_n X.hx X.hb dX10_nod_51 rfl (lv_at hl 0 rfl) ?_
        cases hf
        subst hQ
        exact r_iret X hP hD hS dX10_nod_52
    · replace hf := if_t hf hc_6
      refine lv_iconst (v := (-1)) X.hx X.hb dX10_nod_22 (by decide) ?_
      cases hf
      subst hQ
      exact r_iret X hP hD hS dX10_nod_23

def f_X10_veil (N : Nat) (iX : Nat → Int32) (iM : Nat → Int32) (sM : Nat → Nat → Int32) (aU : Nat → Nat → Nat) (iU : Nat → Nat → Int32) (sU : Nat → Nat → Nat → Int32) (iC : Nat → Int32) (tC : Nat → Nat → Int64) (sC : Nat → Nat → Int32) (p1 : Int32) : Option (Int32 × (Nat → Int32) × (Nat → Int32) × (Nat → Nat → Nat) × (Nat → Nat → Int32) × (Nat → Nat → Nat → Int32)) :=
  bd (f_X1_isPerson N iC tC sC p1) (fun r_1 => (if r_1 = 0 then some ((-1), iX, iM, aU, iU, sU) else bd (f_X4_whyNotVeil N iM sM iC tC sC p1) (fun r_4 => (if r_4 = 0 then bd (f_X10_keepU N iX iM sM aU iU sU) (fun (iX_7, aU_8, iU_9, sU_10) => bd (f_X4_doVeil N iM sM iC tC sC p1) (fun iM_12 => some (r_4, iX_7, iM_12, aU_8, iU_9, sU_10))) else some (r_4, iX, iM, aU, iU, sU)))))
set_option maxHeartbeats 4000000 in
set_option maxRecDepth 100000 in
theorem c_X10_veil (l : Launch) (G : GT) (N : Nat) (uX uM uC : Nat → Nat) (xX0 xX2 xX4 xX7 xX8 xX9 xX10 xX11 xX12 xX13 : Nat) (iX : Nat → Int32) (iM : Nat → Int32) (sM : Nat → Nat → Int32) (aU : Nat → Nat → Nat) (iU : Nat → Nat → Int32) (sU : Nat → Nat → Nat → Int32) (iC : Nat → Int32) (tC : Nat → Nat → Int64) (sC : Nat → Nat → Int32) (p1 : Int32) {r : Int32} {iX' : Nat → Int32} {iM' : Nat → Int32} {aU' : Nat → Nat → Nat} {iU' : Nat → Nat → Int32} {sU' : Nat → Nat → Nat → Int32} (hf : f_X10_veil N iX iM sM aU iU sU iC tC sC p1 = some (r, iX', iM', aU', iU', sU')) : CI l G yX10_veil cX10_veil 3 .int 4 [.ref (uX 0), .int p1] (gX G uX xX0 (uC 0) xX2 (uM 0) xX4 xX7 xX8 xX9 xX10 xX11 xX12 xX13 (kq aU) iX ++ gM G uM (uC 0) iM sM ++ gU G aU (uC 0) iU sU ++ gC G uC iC tC sC) r (gX G uX xX0 (uC 0) xX2 (uM 0) xX4 xX7 xX8 xX9 xX10 xX11 xX12 xX13 (kq aU') iX' ++ gM G uM (uC 0) iM' sM ++ gU G aU' (uC 0) iU' sU' ++ gC G uC iC tC sC) := by
  refine CI.of (by decide) (Nat.le_of_ble_eq_true rfl) ?_
  intro p e s m args below meth c A X hA hP hD hS ls hl
  have hl : lv_has ls 3 [(0, .ref (uX 0)), (1, .int p1)] := hl
  generalize hQ : MQ below (QI G A r (gX G uX xX0 (uC 0) xX2 (uM 0) xX4 xX7 xX8 xX9 xX10 xX11 xX12 xX13 (kq aU') iX' ++ gM G uM (uC 0) iM' sM ++ gU G aU' (uC 0) iU' sU' ++ gC G uC iC tC sC)) args s 0 0 A = QQ
  unfold f_X10_veil at hf
  refine lv_aload_n X.hx X.hb dX10_veil_0 rfl (lv_at hl 0 rfl) ?_
  refine gf_X10_19 X hP 0 rfl (v := .ref (uC 0)) rfl dX10_veil_1 ?_
  refine lv_iload_n X.hx X.hb dX10_veil_4 rfl (lv_at hl 1 rfl) ?_
  obtain ⟨r_1, hc_2, hf⟩ := bd_i hf
  refine r_bvi (gX G uX xX0 (uC 0) xX2 (uM 0) xX4 xX7 xX8 xX9 xX10 xX11 xX12 xX13 (kq aU) iX ++ gM G uM (uC 0) iM sM ++ gU G aU (uC 0) iU sU) ([] : va_W) (As := [.int p1]) (rest := []) X sm_X10_134 (c_X1_isPerson l G N uC iC tC sC p1 hc_2) hP hD hS hA (by simp only [List.append_assoc, List.append_nil, List.nil_append]) (wo := (gX G uX xX0 (uC 0) xX2 (uM 0) xX4 xX7 xX8 xX9 xX10 xX11 xX12 xX13 (kq aU) iX ++ gM G uM (uC 0) iM sM ++ gU G aU (uC 0) iU sU ++ gC G uC iC tC sC)) (by simp only [List.append_assoc, List.append_nil, List.nil_append]) 0 rfl rfl rfl hl.1 (lv_room (Nat.le_of_ble_eq_true rfl)) ⟨Nat.le_of_ble_eq_true rfl, Nat.le_of_ble_eq_true rfl⟩ ⟨Nat.zero_le _, Nat.zero_le _⟩ dX10_veil_5 (fun H locs hP hD hS => ?_)
  refine lv_if_ne (tgt := 13) X.hx X.hb dX10_veil_8 (by decide) (fun hc_3 => ?_) (fun hc_3 => ?_)
  · replace hf := if_f hf hc_3
    refine lv_aload_n X.hx X.hb dX10_veil_13 rfl (lv_at hl 0 rfl) ?_
    refine gf_X10_37 X hP 0 rfl (v := .ref (uM 0)) rfl dX10_veil_14 ?_
    refine lv_iload_n X.hx X.hb dX10_veil_17 rfl (lv_at hl 1 rfl) ?_
    obtain ⟨r_4, hc_5, hf⟩ := bd_i hf
    refine r_cvi (As := [.int p1]) (rest := []) X sm_X10_229 (c_X4_whyNotVeil l G N uM uC iM sM iC tC sC p1 hc_5) hP hD hS hA 2 rfl rfl [2, 3, 4, 5, 6, 7, 8, 65, 66, 67, 68, 69, 70, 71, 72] rfl rfl rfl (wo := (gX G uX xX0 (uC 0) xX2 (uM 0) xX4 xX7 xX8 xX9 xX10 xX11 xX12 xX13 (kq aU) iX ++ gM G uM (uC 0) iM sM ++ gU G aU (uC 0) iU sU ++ gC G uC iC tC sC)) rfl rfl hl.1 (lv_room (Nat.le_of_ble_eq_true rfl)) ⟨Nat.le_of_ble_eq_true rfl, Nat.le_of_ble_eq_true rfl⟩ ⟨Nat.zero_le _, Nat.zero_le _⟩ dX10_veil_18 (fun H locs hP hD hS => ?_)
    refine lv_istore_n (lv' := [(2, .int r_4), (0, .ref (uX 0)), (1, .int p1)]) X.hx X.hb dX10_veil_21 rfl hl (by decide) rfl (fun ls hl => ?_)
    refine lv_iload_n X.hx X.hb dX10_veil_22 rfl (lv_at hl 0 rfl) ?_
    refine lv_if_ne (tgt := 38) X.hx X.hb dX10_veil_23 (by decide) (fun hc_6 => ?_) (fun hc_6 => ?_)
    · replace hf := if_f hf hc_6
      refine lv_iload_n X.hx X.hb dX10_veil_38 rfl (lv_at hl 0 rfl) ?_
      cases hf
      subst hQ
      exact r_iret X hP hD hS dX10_veil_39
    · replace hf := if_t hf hc_6
      refine lv_aload_n X.hx X.hb dX10_veil_26 rfl (lv_at hl 1 rfl) ?_
      obtain ⟨⟨iX_7, aU_8, iU_9, sU_10⟩, hc_11, hf⟩ := bd_i hf
      refine r_bvv ([] : va_W) (gC G uC iC tC sC) (As := []) (rest := []) X sm_X10_215 (c_X10_keepU l G N uX uM xX0 (uC 0) xX2 xX4 xX7 xX8 xX9 xX10 xX11 xX12 xX13 (uC 0) iX iM sM aU iU sU hc_11) hP hD hS hA (by simp only [List.append_assoc, List.append_nil, List.nil_append]) (wo := (gX G uX xX0 (uC 0) xX2 (uM 0) xX4 xX7 xX8 xX9 xX10 xX11 xX12 xX13 (kq aU_8) iX_7 ++ gM G uM (uC 0) iM sM ++ gU G aU_8 (uC 0) iU_9 sU_10 ++ gC G uC iC tC sC)) (by simp only [List.append_assoc, List.append_nil, List.nil_append]) 0 rfl rfl rfl hl.1 (lv_room (Nat.le_of_ble_eq_true rfl)) ⟨Nat.le_of_ble_eq_true rfl, Nat.le_of_ble_eq_true rfl⟩ ⟨Nat.zero_le _, Nat.zero_le _⟩ dX10_veil_27 (fun H locs hP hD hS => ?_)
      refine lv_aload_n X.hx X.hb dX10_veil_30 rfl (lv_at hl 1 rfl) ?_
      refine gf_X10_37 X hP 0 rfl (v := .ref (uM 0)) rfl dX10_veil_31 ?_
      refine lv_iload_n X.hx X.hb dX10_veil_34 rfl (lv_at hl 2 rfl) ?_
      obtain ⟨iM_12, hc_13, hf⟩ := bd_i hf
      refine r_cvv (As := [.int p1]) (rest := []) X sm_X10_232 (c_X4_doVeil l G N uM uC iM sM iC tC sC p1 hc_13) hP hD hS hA 2 rfl rfl [2, 3, 4, 5, 6, 7, 8, 65, 66, 67, 68, 69, 70, 71, 72] rfl rfl rfl (wo := (gX G uX xX0 (uC 0) xX2 (uM 0) xX4 xX7 xX8 xX9 xX10 xX11 xX12 xX13 (kq aU_8) iX_7 ++ gM G uM (uC 0) iM_12 sM ++ gU G aU_8 (uC 0) iU_9 sU_10 ++ gC G uC iC tC sC)) rfl rfl hl.1 (lv_room (Nat.le_of_ble_eq_true rfl)) ⟨Nat.le_of_ble_eq_true rfl, Nat.le_of_ble_eq_true rfl⟩ ⟨Nat.zero_le _, Nat.zero_le _⟩ dX10_veil_35 (fun H locs hP hD hS => ?_)
      refine lv_iload_n X.hx X.hb dX10_veil_38 rfl (lv_at hl 0 rfl) ?_
      cases hf
      subst hQ
      exact r_iret X hP hD hS dX10_veil_39
  · replace hf := if_t hf hc_3
    refine lv_iconst (v := (-1)) X.hx X.hb dX10_veil_11 (by decide) ?_
    cases hf
    subst hQ
    exact r_iret X hP hD hS dX10_veil_12

def f_X10_tell (N : Nat) (iX : Nat → Int32) (iM : Nat → Int32) (sM : Nat → Nat → Int32) (aU : Nat → Nat → Nat) (iU : Nat → Nat → Int32) (sU : Nat → Nat → Nat → Int32) (iC : Nat → Int32) (tC : Nat → Nat → Int64) (sC : Nat → Nat → Int32) (p1 : Int32) (p2 : Int32) (p3 : Int32) : Option (Int32 × (Nat → Int32) × (Nat → Nat → Int32) × (Nat → Nat → Nat) × (Nat → Nat → Int32) × (Nat → Nat → Nat → Int32)) :=
  bd (f_X1_isPerson N iC tC sC p1) (fun r_1 => (if r_1 = 0 then some ((-1), iX, sM, aU, iU, sU) else bd (f_X1_isPerson N iC tC sC p2) (fun r_4 => (if r_4 = 0 then some ((-1), iX, sM, aU, iU, sU) else bd (f_X1_isPerson N iC tC sC p3) (fun r_7 => (if r_7 = 0 then some ((-1), iX, sM, aU, iU, sU) else bd (f_X4_whyNotTell N iM sM iC tC sC p1 p2 p3) (fun r_10 => (if r_10 = 0 then bd (f_X10_keepU N iX iM sM aU iU sU) (fun (iX_13, aU_14, iU_15, sU_16) => bd (f_X4_meet N iM sM iC tC sC p2 p3) (fun sM_18 => some (r_10, iX_13, sM_18, aU_14, iU_15, sU_16))) else some (r_10, iX, sM, aU, iU, sU)))))))))
set_option maxHeartbeats 4000000 in
set_option maxRecDepth 100000 in
theorem c_X10_tell (l : Launch) (G : GT) (N : Nat) (uX uM uC : Nat → Nat) (xX0 xX2 xX4 xX7 xX8 xX9 xX10 xX11 xX12 xX13 : Nat) (iX : Nat → Int32) (iM : Nat → Int32) (sM : Nat → Nat → Int32) (aU : Nat → Nat → Nat) (iU : Nat → Nat → Int32) (sU : Nat → Nat → Nat → Int32) (iC : Nat → Int32) (tC : Nat → Nat → Int64) (sC : Nat → Nat → Int32) (p1 : Int32) (p2 : Int32) (p3 : Int32) {r : Int32} {iX' : Nat → Int32} {sM' : Nat → Nat → Int32} {aU' : Nat → Nat → Nat} {iU' : Nat → Nat → Int32} {sU' : Nat → Nat → Nat → Int32} (hf : f_X10_tell N iX iM sM aU iU sU iC tC sC p1 p2 p3 = some (r, iX', sM', aU', iU', sU')) : CI l G yX10_tell cX10_tell 5 .int 4 [.ref (uX 0), .int p1, .int p2, .int p3] (gX G uX xX0 (uC 0) xX2 (uM 0) xX4 xX7 xX8 xX9 xX10 xX11 xX12 xX13 (kq aU) iX ++ gM G uM (uC 0) iM sM ++ gU G aU (uC 0) iU sU ++ gC G uC iC tC sC) r (gX G uX xX0 (uC 0) xX2 (uM 0) xX4 xX7 xX8 xX9 xX10 xX11 xX12 xX13 (kq aU') iX' ++ gM G uM (uC 0) iM sM' ++ gU G aU' (uC 0) iU' sU' ++ gC G uC iC tC sC) := by
  refine CI.of (by decide) (Nat.le_of_ble_eq_true rfl) ?_
  intro p e s m args below meth c A X hA hP hD hS ls hl
  have hl : lv_has ls 5 [(0, .ref (uX 0)), (1, .int p1), (2, .int p2), (3, .int p3)] := hl
  generalize hQ : MQ below (QI G A r (gX G uX xX0 (uC 0) xX2 (uM 0) xX4 xX7 xX8 xX9 xX10 xX11 xX12 xX13 (kq aU') iX' ++ gM G uM (uC 0) iM sM' ++ gU G aU' (uC 0) iU' sU' ++ gC G uC iC tC sC)) args s 0 0 A = QQ
  unfold f_X10_tell at hf
  refine lv_aload_n X.hx X.hb dX10_tell_0 rfl (lv_at hl 0 rfl) ?_
  refine gf_X10_19 X hP 0 rfl (v := .ref (uC 0)) rfl dX10_tell_1 ?_
  refine lv_iload_n X.hx X.hb dX10_tell_4 rfl (lv_at hl 1 rfl) ?_
  obtain ⟨r_1, hc_2, hf⟩ := bd_i hf
  refine r_bvi (gX G uX xX0 (uC 0) xX2 (uM 0) xX4 xX7 xX8 xX9 xX10 xX11 xX12 xX13 (kq aU) iX ++ gM G uM (uC 0) iM sM ++ gU G aU (uC 0) iU sU) ([] : va_W) (As := [.int p1]) (rest := []) X sm_X10_134 (c_X1_isPerson l G N uC iC tC sC p1 hc_2) hP hD hS hA (by simp only [List.append_assoc, List.append_nil, List.nil_append]) (wo := (gX G uX xX0 (uC 0) xX2 (uM 0) xX4 xX7 xX8 xX9 xX10 xX11 xX12 xX13 (kq aU) iX ++ gM G uM (uC 0) iM sM ++ gU G aU (uC 0) iU sU ++ gC G uC iC tC sC)) (by simp only [List.append_assoc, List.append_nil, List.nil_append]) 0 rfl rfl rfl hl.1 (lv_room (Nat.le_of_ble_eq_true rfl)) ⟨Nat.le_of_ble_eq_true rfl, Nat.le_of_ble_eq_true rfl⟩ ⟨Nat.zero_le _, Nat.zero_le _⟩ dX10_tell_5 (fun H locs hP hD hS => ?_)
  refine lv_if_eq (tgt := 33) X.hx X.hb dX10_tell_8 (by decide) (fun hc_3 => ?_) (fun hc_3 => ?_)
  · replace hf := if_t hf hc_3
    refine lv_iconst (v := (-1)) X.hx X.hb dX10_tell_33 (by decide) ?_
    cases hf
    subst hQ
    exact r_iret X hP hD hS dX10_tell_34
  · replace hf := if_f hf hc_3
    refine lv_aload_n X.hx X.hb dX10_tell_11 rfl (lv_at hl 0 rfl) ?_
    refine gf_X10_19 X hP 0 rfl (v := .ref (uC 0)) rfl dX10_tell_12 ?_
    refine lv_iload_n X.hx X.hb dX10_tell_15 rfl (lv_at hl 2 rfl) ?_
    obtain ⟨r_4, hc_5, hf⟩ := bd_i hf
    refine r_bvi (gX G uX xX0 (uC 0) xX2 (uM 0) xX4 xX7 xX8 xX9 xX10 xX11 xX12 xX13 (kq aU) iX ++ gM G uM (uC 0) iM sM ++ gU G aU (uC 0) iU sU) ([] : va_W) (As := [.int p2]) (rest := []) X sm_X10_134 (c_X1_isPerson l G N uC iC tC sC p2 hc_5) hP hD hS hA (by simp only [List.append_assoc, List.append_nil, List.nil_append]) (wo := (gX G uX xX0 (uC 0) xX2 (uM 0) xX4 xX7 xX8 xX9 xX10 xX11 xX12 xX13 (kq aU) iX ++ gM G uM (uC 0) iM sM ++ gU G aU (uC 0) iU sU ++ gC G uC iC tC sC)) (by simp only [List.append_assoc, List.append_nil, List.nil_append]) 0 rfl rfl rfl hl.1 (lv_room (Nat.le_of_ble_eq_true rfl)) ⟨Nat.le_of_ble_eq_true rfl, Nat.le_of_ble_eq_true rfl⟩ ⟨Nat.zero_le _, Nat.zero_le _⟩ dX10_tell_16 (fun H locs hP hD hS => ?_)
    refine lv_if_eq (tgt := 33) X.hx X.hb dX10_tell_19 (by decide) (fun hc_6 => ?_) (fun hc_6 => ?_)
    · replace hf := if_t hf hc_6
      refine lv_iconst (v := (-1)) X.hx X.hb dX10_tell_33 (by decide) ?_
      cases hf
      subst hQ
      exact r_iret X hP hD hS dX10_tell_34
    · replace hf := if_f hf hc_6
      refine lv_aload_n X.hx X.hb dX10_tell_22 rfl (lv_at hl 0 rfl) ?_
      refine gf_X10_19 X hP 0 rfl (v := .ref (uC 0)) rfl dX10_tell_23 ?_
      refine lv_iload_n X.hx X.hb dX10_tell_26 rfl (lv_at hl 3 rfl) ?_
      obtain ⟨r_7, hc_8, hf⟩ := bd_i hf
      refine r_bvi (gX G uX xX0 (uC 0) xX2 (uM 0) xX4 xX7 xX8 xX9 xX10 xX11 xX12 xX13 (kq aU) iX ++ gM G uM (uC 0) iM sM ++ gU G aU (uC 0) iU sU) ([] : va_W) (As := [.int p3]) (rest := []) X sm_X10_134 (c_X1_isPerson l G N uC iC tC sC p3 hc_8) hP hD hS hA (by simp only [List.append_assoc, List.append_nil, List.nil_append]) (wo := (gX G uX xX0 (uC 0) xX2 (uM 0) xX4 xX7 xX8 xX9 xX10 xX11 xX12 xX13 (kq aU) iX ++ gM G uM (uC 0) iM sM ++ gU G aU (uC 0) iU sU ++ gC G uC iC tC sC)) (by simp only [List.append_assoc, List.append_nil, List.nil_append]) 0 rfl rfl rfl hl.1 (lv_room (Nat.le_of_ble_eq_true rfl)) ⟨Nat.le_of_ble_eq_true rfl, Nat.le_of_ble_eq_true rfl⟩ ⟨Nat.zero_le _, Nat.zero_le _⟩ dX10_tell_27 (fun H locs hP hD hS => ?_)
      refine lv_if_ne (tgt := 35) X.hx X.hb dX10_tell_30 (by decide) (fun hc_9 => ?_) (fun hc_9 => ?_)
      · replace hf := if_f hf hc_9
        refine lv_aload_n X.hx X.hb dX10_tell_35 rfl (lv_at hl 0 rfl) ?_
        refine gf_X10_37 X hP 0 rfl (v := .ref (uM 0)) rfl dX10_tell_36 ?_
        refine lv_iload_n X.hx X.hb dX10_tell_39 rfl (lv_at hl 1 rfl) ?_
        refine lv_iload_n X.hx X.hb dX10_tell_40 rfl (lv_at hl 2 rfl) ?_
        refine lv_iload_n X.hx X.hb dX10_tell_41 rfl (lv_at hl 3 rfl) ?_
        obtain ⟨r_10, hc_11, hf⟩ := bd_i hf
        refine r_cvi (As := [.int p1, .int p2, .int p3]) (rest := []) X sm_X10_235 (c_X4_whyNotTell l G N uM uC iM sM iC tC sC p1 p2 p3 hc_11) hP hD hS hA 2 rfl rfl [2, 3, 4, 5, 6, 7, 8, 65, 66, 67, 68, 69, 70, 71, 72] rfl rfl rfl (wo := (gX G uX xX0 (uC 0) xX2 (uM 0) xX4 xX7 xX8 xX9 xX10 xX11 xX12 xX13 (kq aU) iX ++ gM G uM (uC 0) iM sM ++ gU G aU (uC 0) iU sU ++ gC G uC iC tC sC)) rfl rfl hl.1 (lv_room (Nat.le_of_ble_eq_true rfl)) ⟨Nat.le_of_ble_eq_true rfl, Nat.le_of_ble_eq_true rfl⟩ ⟨Nat.zero_le _, Nat.zero_le _⟩ dX10_tell_42 (fun H locs hP hD hS => ?_)
        refine lv_istore (lv' := [(4, .int r_10), (0, .ref (uX 0)), (1, .int p1), (2, .int p2), (3, .int p3)]) X.hx X.hb dX10_tell_45 hl (by decide) rfl (fun ls hl => ?_)
        refine lv_iload X.hx X.hb dX10_tell_47 (lv_at hl 0 rfl) ?_
        refine lv_if_ne (tgt := 65) X.hx X.hb dX10_tell_49 (by decide) (fun hc_12 => ?_) (fun hc_12 => ?_)
        · replace hf := if_f hf hc_12
          refine lv_iload X.hx X.hb dX10_tell_65 (lv_at hl 0 rfl) ?_
          cases hf
          subst hQ
          exact r_iret X hP hD hS dX10_tell_67
        · replace hf := if_t hf hc_12
          refine lv_aload_n X.hx X.hb dX10_tell_52 rfl (lv_at hl 1 rfl) ?_
          obtain ⟨⟨iX_13, aU_14, iU_15, sU_16⟩, hc_17, hf⟩ := bd_i hf
          refine r_bvv ([] : va_W) (gC G uC iC tC sC) (As := []) (rest := []) X sm_X10_215 (c_X10_keepU l G N uX uM xX0 (uC 0) xX2 xX4 xX7 xX8 xX9 xX10 xX11 xX12 xX13 (uC 0) iX iM sM aU iU sU hc_17) hP hD hS hA (by simp only [List.append_assoc, List.append_nil, List.nil_append]) (wo := (gX G uX xX0 (uC 0) xX2 (uM 0) xX4 xX7 xX8 xX9 xX10 xX11 xX12 xX13 (kq aU_14) iX_13 ++ gM G uM (uC 0) iM sM ++ gU G aU_14 (uC 0) iU_15 sU_16 ++ gC G uC iC tC sC)) (by simp only [List.append_assoc, List.append_nil, List.nil_append]) 0 rfl rfl rfl hl.1 (lv_room (Nat.le_of_ble_eq_true rfl)) ⟨Nat.le_of_ble_eq_true rfl, Nat.le_of_ble_eq_true rfl⟩ ⟨Nat.zero_le _, Nat.zero_le _⟩ dX10_tell_53 (fun H locs hP hD hS => ?_)
          refine lv_aload_n X.hx X.hb dX10_tell_56 rfl (lv_at hl 1 rfl) ?_
          refine gf_X10_37 X hP 0 rfl (v := .ref (uM 0)) rfl dX10_tell_57 ?_
          refine lv_iload_n X.hx X.hb dX10_tell_60 rfl (lv_at hl 3 rfl) ?_
          refine lv_iload_n X.hx X.hb dX10_tell_61 rfl (lv_at hl 4 rfl) ?_
          obtain ⟨sM_18, hc_19, hf⟩ := bd_i hf
          refine r_cvv (As := [.int p2, .int p3]) (rest := []) X sm_X10_238 (c_X4_meet l G N uM uC iM sM iC tC sC p2 p3 hc_19) hP hD hS hA 2 rfl rfl [2, 3, 4, 5, 6, 7, 8, 65, 66, 67, 68, 69, 70, 71, 72] rfl rfl rfl (wo := (gX G uX xX0 (uC 0) xX2 (uM 0) xX4 xX7 xX8 xX9 xX10 xX11 xX12 xX13 (kq aU_14) iX_13 ++ gM G uM (uC 0) iM sM_18 ++ gU G aU_14 (uC 0) iU_15 sU_16 ++ gC G uC iC tC sC)) rfl rfl hl.1 (lv_room (Nat.le_of_ble_eq_true rfl)) ⟨Nat.le_of_ble_eq_true rfl, Nat.le_of_ble_eq_true rfl⟩ ⟨Nat.zero_le _, Nat.zero_le _⟩ dX10_tell_62 (fun H locs hP hD hS => ?_)
          refine lv_iload X.hx X.hb dX10_tell_65 (lv_at hl 0 rfl) ?_
          cases hf
          subst hQ
          exact r_iret X hP hD hS dX10_tell_67
      · replace hf := if_t hf hc_9
        refine lv_iconst (v := (-1)) X.hx X.hb dX10_tell_33 (by decide) ?_
        cases hf
        subst hQ
        exact r_iret X hP hD hS dX10_tell_34

