def f_X2_readPair_5 (N : Nat) (iR : Nat → Int32) (sT : Nat → Nat → Int32) (iT : Nat → Int32) (jT : Nat → Int64) (iC : Nat → Int32) (tC : Nat → Nat → Int64) (sC : Nat → Nat → Int32) : Option (Int32 × (Nat → Int32) × (Nat → Int64) × (Nat → Nat → Int32)) :=
  bd (f_X8_next N sT iT jT) (fun (iT_1, jT_2) => bd (f_X8_passPerson N sT iT_1 jT_2 iC tC sC) (fun (r_4, iT_5, jT_6) => (if r_4 = (-1) then some (0, iT_5, jT_6, sC) else bd (f_X8_personHere N sT iT_5 jT_6 iC tC sC) (fun (r_9, iT_10) => (if r_9 = (-1) then some (0, iT_10, jT_6, sC) else jn (fun (z : Unit) => match z with | () => bd (f_X8_refuse N sT iT_10 jT_6 3) (fun (r_16, iT_17) => zb r_16 (some (r_16, iT_17, jT_6, sC)))) (fun K_13 => (if r_4 = r_9 then K_13 () else ck r_4 7 (bd (f_X10_has N ((sC 5) (ix r_4)) r_9) (fun r_22 => (if r_22 = 0 then ck r_4 7 (ck r_4 7 (nv (upd (sC 5) (ix r_4) (((sC 5) (ix r_4)) ||| ((1 : Int32) <<< (r_9 &&& 31)))) (fun g_27 => ck r_9 7 (ck r_9 7 (nv (upd g_27 (ix r_9) ((g_27 (ix r_9)) ||| ((1 : Int32) <<< (r_4 &&& 31)))) (fun g_30 => bd (f_X8_next N sT iT_10 jT_6) (fun (iT_31, jT_32) => some (1, iT_31, jT_32, (va_up sC 5 g_30))))))))) else K_13 ()))))))))))
set_option maxHeartbeats 4000000 in
set_option maxRecDepth 100000 in
theorem c_X2_readPair_5 (l : Launch) (G : GT) (N : Nat) (uR uT uC : Nat → Nat) (iR : Nat → Int32) (sT : Nat → Nat → Int32) (iT : Nat → Int32) (jT : Nat → Int64) (iC : Nat → Int32) (tC : Nat → Nat → Int64) (sC : Nat → Nat → Int32) {r : Int32} {iT' : Nat → Int32} {jT' : Nat → Int64} {sC' : Nat → Nat → Int32} (hf : f_X2_readPair_5 N iR sT iT jT iC tC sC = some (r, iT', jT', sC')) : CI l G yX2_readPair cX2_readPair 4 .boolean 4 [.ref (uR 0), .ref (uC 6)] (gR G uR (uT 0) (uC 0) iR ++ gT G uT sT iT jT ++ gC G uC iC tC sC) r (gR G uR (uT 0) (uC 0) iR ++ gT G uT sT iT' jT' ++ gC G uC iC tC sC') := by
  refine CI.of (by decide) (Nat.le_of_ble_eq_true rfl) ?_
  intro p e s m args below meth c A X hA hP hD hS ls hl
  have hl : lv_has ls 4 [(0, .ref (uR 0)), (1, .ref (uC 6))] := hl
  generalize hQ : MQ below (QI G A r (gR G uR (uT 0) (uC 0) iR ++ gT G uT sT iT' jT' ++ gC G uC iC tC sC')) args s 0 0 A = QQ
  unfold f_X2_readPair_5 at hf
  refine lv_aload_n X.hx X.hb dX2_readPair_0 rfl (lv_at hl 0 rfl) ?_
  refine gf_X2_18 X hP 0 rfl (v := .ref (uT 0)) rfl dX2_readPair_1 ?_
  obtain ⟨⟨iT_1, jT_2⟩, hc_3, hf⟩ := bd_i hf
  refine r_bvv (gR G uR (uT 0) (uC 0) iR) (gC G uC iC tC sC) (As := []) (rest := []) X sm_X2_97 (c_X8_next l G N uT sT iT jT hc_3) hP hD hS hA (by simp only [List.append_assoc, List.append_nil, List.nil_append]) (wo := (gR G uR (uT 0) (uC 0) iR ++ gT G uT sT iT_1 jT_2 ++ gC G uC iC tC sC)) (by simp only [List.append_assoc, List.append_nil, List.nil_append]) 0 rfl rfl rfl hl.1 (lv_room (Nat.le_of_ble_eq_true rfl)) ⟨Nat.le_of_ble_eq_true rfl, Nat.le_of_ble_eq_true rfl⟩ ⟨Nat.zero_le _, Nat.zero_le _⟩ dX2_readPair_4 (fun H locs hP hD hS => ?_)
  refine lv_aload_n X.hx X.hb dX2_readPair_7 rfl (lv_at hl 0 rfl) ?_
  refine gf_X2_18 X hP 0 rfl (v := .ref (uT 0)) rfl dX2_readPair_8 ?_
  refine lv_aload_n X.hx X.hb dX2_readPair_11 rfl (lv_at hl 0 rfl) ?_
  refine gf_X2_12 X hP 0 rfl (v := .ref (uC 0)) rfl dX2_readPair_12 ?_
  obtain ⟨⟨r_4, iT_5, jT_6⟩, hc_7, hf⟩ := bd_i hf
  refine r_bvi (gR G uR (uT 0) (uC 0) iR) ([] : va_W) (As := [.ref (uC 0)]) (rest := []) X sm_X2_141 (c_X8_passPerson l G N uT uC sT iT_1 jT_2 iC tC sC hc_7) hP hD hS hA (by simp only [List.append_assoc, List.append_nil, List.nil_append]) (wo := (gR G uR (uT 0) (uC 0) iR ++ gT G uT sT iT_5 jT_6 ++ gC G uC iC tC sC)) (by simp only [List.append_assoc, List.append_nil, List.nil_append]) 0 rfl rfl rfl hl.1 (lv_room (Nat.le_of_ble_eq_true rfl)) ⟨Nat.le_of_ble_eq_true rfl, Nat.le_of_ble_eq_true rfl⟩ ⟨Nat.zero_le _, Nat.zero_le _⟩ dX2_readPair_15 (fun H locs hP hD hS => ?_)
  refine lv_istore_n (lv' := [(2, .int r_4), (0, .ref (uR 0)), (1, .ref (uC 6))]) X.hx X.hb dX2_readPair_18 rfl hl (by decide) rfl (fun ls hl => ?_)
  refine lv_iload_n X.hx X.hb dX2_readPair_19 rfl (lv_at hl 0 rfl) ?_
  refine lv_iconst (v := (-1)) X.hx X.hb dX2_readPair_20 (by decide) ?_
  refine lv_icmp_ne (tgt := 26) X.hx X.hb dX2_readPair_21 (by decide) (fun hc_8 => ?_) (fun hc_8 => ?_)
  · replace hf := if_f hf hc_8
    refine lv_aload_n X.hx X.hb dX2_readPair_26 rfl (lv_at hl 1 rfl) ?_
    refine gf_X2_18 X hP 0 rfl (v := .ref (uT 0)) rfl dX2_readPair_27 ?_
    refine lv_aload_n X.hx X.hb dX2_readPair_30 rfl (lv_at hl 1 rfl) ?_
    refine gf_X2_12 X hP 0 rfl (v := .ref (uC 0)) rfl dX2_readPair_31 ?_
    obtain ⟨⟨r_9, iT_10⟩, hc_11, hf⟩ := bd_i hf
    refine r_bvi (gR G uR (uT 0) (uC 0) iR) ([] : va_W) (As := [.ref (uC 0)]) (rest := []) X sm_X2_155 (c_X8_personHere l G N uT uC sT iT_5 jT_6 iC tC sC hc_11) hP hD hS hA (by simp only [List.append_assoc, List.append_nil, List.nil_append]) (wo := (gR G uR (uT 0) (uC 0) iR ++ gT G uT sT iT_10 jT_6 ++ gC G uC iC tC sC)) (by simp only [List.append_assoc, List.append_nil, List.nil_append]) 0 rfl rfl rfl hl.1 (lv_room (Nat.le_of_ble_eq_true rfl)) ⟨Nat.le_of_ble_eq_true rfl, Nat.le_of_ble_eq_true rfl⟩ ⟨Nat.zero_le _, Nat.zero_le _⟩ dX2_readPair_34 (fun H locs hP hD hS => ?_)
    refine lv_istore_n (lv' := [(3, .int r_9), (2, .int r_4), (0, .ref (uR 0)), (1, .ref (uC 6))]) X.hx X.hb dX2_readPair_37 rfl hl (by decide) rfl (fun ls hl => ?_)
    refine lv_iload_n X.hx X.hb dX2_readPair_38 rfl (lv_at hl 0 rfl) ?_
    refine lv_iconst (v := (-1)) X.hx X.hb dX2_readPair_39 (by decide) ?_
    refine lv_icmp_ne (tgt := 45) X.hx X.hb dX2_readPair_40 (by decide) (fun hc_12 => ?_) (fun hc_12 => ?_)
    · replace hf := if_f hf hc_12
      refine lv_iload_n X.hx X.hb dX2_readPair_45 rfl (lv_at hl 1 rfl) ?_
      refine lv_iload_n X.hx X.hb dX2_readPair_46 rfl (lv_at hl 0 rfl) ?_
      obtain ⟨K_13, eK_15, hf⟩ := jn_i hf
      have hj_14 : ∀ (H : Heap) (locs : List Loc) (ls : Array Slot), K_13 () = some (r, iT', jT', sC') → va_P G.1 vwCl (gR G uR (uT 0) (uC 0) iR ++ gT G uT sT iT_10 jT_6 ++ gC G uC iC tC sC) H → va_D A (gR G uR (uT 0) (uC 0) iR ++ gT G uT sT iT_10 jT_6 ++ gC G uC iC tC sC) → va_S A s.heap H locs → lv_has ls 4 [(0, .ref (uR 0))] → W p l e (RM 4) s m args below meth c H locs 0 0 QQ (F0 m 60 ls []) := by
        intro  H locs ls hf hP hD hS hl
        rw [eK_15] at hf
        try dsimp only at hf
        refine lv_aload_n X.hx X.hb dX2_readPair_60 rfl (lv_at hl 0 rfl) ?_
        refine gf_X2_18 X hP 0 rfl (v := .ref (uT 0)) rfl dX2_readPair_61 ?_
        refine lv_iconst (v := 3) X.hx X.hb dX2_readPair_64 (by decide) ?_
        obtain ⟨⟨r_16, iT_17⟩, hc_18, hf⟩ := bd_i hf
        refine r_bvi (gR G uR (uT 0) (uC 0) iR) (gC G uC iC tC sC) (As := [.int 3]) (rest := []) X sm_X2_91 (c_X8_refuse l G N uT sT iT_10 jT_6 3 hc_18) hP hD hS hA (by simp only [List.append_assoc, List.append_nil, List.nil_append]) (wo := (gR G uR (uT 0) (uC 0) iR ++ gT G uT sT iT_17 jT_6 ++ gC G uC iC tC sC)) (by simp only [List.append_assoc, List.append_nil, List.nil_append]) 0 rfl rfl rfl hl.1 (lv_room (Nat.le_of_ble_eq_true rfl)) ⟨Nat.le_of_ble_eq_true rfl, Nat.le_of_ble_eq_true rfl⟩ ⟨Nat.zero_le _, Nat.zero_le _⟩ dX2_readPair_65 (fun H locs hP hD hS => ?_)
        obtain ⟨hb_19, hf⟩ := zb_i hf
        cases hf
        subst hQ
        exact r_zret X hP hD hS hb_19 dX2_readPair_68
      refine lv_icmp_eq (tgt := 60) X.hx X.hb dX2_readPair_47 (by decide) (fun hc_20 => ?_) (fun hc_20 => ?_)
      · replace hf := if_t hf hc_20
        exact hj_14 _ _ _ hf hP hD hS (lv_sub hl [2] rfl)
      · replace hf := if_f hf hc_20
        refine lv_aload_n X.hx X.hb dX2_readPair_50 rfl (lv_at hl 3 rfl) ?_
        refine lv_iload_n X.hx X.hb dX2_readPair_51 rfl (lv_at hl 1 rfl) ?_
        obtain ⟨hi_21, hf⟩ := ck_i hf
        refine r_iald X hP 8 (f := (sC 5)) rfl hi_21 dX2_readPair_52 ?_
        refine lv_iload_n X.hx X.hb dX2_readPair_53 rfl (lv_at hl 0 rfl) ?_
        obtain ⟨r_22, hc_23, hf⟩ := bd_i hf
        refine r_cn0 (As := [.int ((sC 5) (ix r_4)), .int r_9]) (rest := []) X sm_X2_158 (c_X10_has l G N ((sC 5) (ix r_4)) r_9 hc_23) hP hD hS hA rfl hl.1 (lv_room (Nat.le_of_ble_eq_true rfl)) ⟨Nat.le_of_ble_eq_true rfl, Nat.le_of_ble_eq_true rfl⟩ ⟨Nat.zero_le _, Nat.zero_le _⟩ dX2_readPair_54 (fun H locs hP hD hS => ?_)
        refine lv_if_eq (tgt := 69) X.hx X.hb dX2_readPair_57 (by decide) (fun hc_24 => ?_) (fun hc_24 => ?_)
        · replace hf := if_t hf hc_24
          refine lv_aload_n X.hx X.hb dX2_readPair_69 rfl (lv_at hl 3 rfl) ?_
          refine lv_iload_n X.hx X.hb dX2_readPair_70 rfl (lv_at hl 1 rfl) ?_
          refine lv_dup2_11 X.hx X.hb dX2_readPair_71 rfl rfl ?_
          obtain ⟨hi_25, hf⟩ := ck_i hf
          refine r_iald X hP 8 (f := (sC 5)) rfl hi_25 dX2_readPair_72 ?_
          refine lv_iconst (v := 1) X.hx X.hb dX2_readPair_73 (by decide) ?_
          refine lv_iload_n X.hx X.hb dX2_readPair_74 rfl (lv_at hl 0 rfl) ?_
          refine lv_ishl X.hx X.hb dX2_readPair_75 ?_
          refine lv_ior X.hx X.hb dX2_readPair_76 ?_
          obtain ⟨hi_26, hf⟩ := ck_i hf
          obtain ⟨g_27, eg_27, hf⟩ := nv_i hf
          refine r_iast X hP hD hS 8 (f := (sC 5)) rfl hi_26 (wo := (gR G uR (uT 0) (uC 0) iR ++ gT G uT sT iT_10 jT_6 ++ gC G uC iC tC (va_up sC 5 g_27))) (by subst eg_27; rfl) dX2_readPair_77 (fun H locs hP hD hS => ?_)
          refine lv_aload_n X.hx X.hb dX2_readPair_78 rfl (lv_at hl 3 rfl) ?_
          refine lv_iload_n X.hx X.hb dX2_readPair_79 rfl (lv_at hl 0 rfl) ?_
          refine lv_dup2_11 X.hx X.hb dX2_readPair_80 rfl rfl ?_
          obtain ⟨hi_28, hf⟩ := ck_i hf
          refine r_iald X hP 8 (f := g_27) rfl hi_28 dX2_readPair_81 ?_
          refine lv_iconst (v := 1) X.hx X.hb dX2_readPair_82 (by decide) ?_
          refine lv_iload_n X.hx X.hb dX2_readPair_83 rfl (lv_at hl 1 rfl) ?_
          refine lv_ishl X.hx X.hb dX2_readPair_84 ?_
          refine lv_ior X.hx X.hb dX2_readPair_85 ?_
          obtain ⟨hi_29, hf⟩ := ck_i hf
          obtain ⟨g_30, eg_30, hf⟩ := nv_i hf
          refine r_iast X hP hD hS 8 (f := g_27) rfl hi_29 (wo := (gR G uR (uT 0) (uC 0) iR ++ gT G uT sT iT_10 jT_6 ++ gC G uC iC tC (va_up sC 5 g_30))) (by subst eg_30; rfl) dX2_readPair_86 (fun H locs hP hD hS => ?_)
          refine lv_aload_n X.hx X.hb dX2_readPair_87 rfl (lv_at hl 2 rfl) ?_
          refine gf_X2_18 X hP 0 rfl (v := .ref (uT 0)) rfl dX2_readPair_88 ?_
          obtain ⟨⟨iT_31, jT_32⟩, hc_33, hf⟩ := bd_i hf
          refine r_bvv (gR G uR (uT 0) (uC 0) iR) (gC G uC iC tC (va_up sC 5 g_30)) (As := []) (rest := []) X sm_X2_97 (c_X8_next l G N uT sT iT_10 jT_6 hc_33) hP hD hS hA (by simp only [List.append_assoc, List.append_nil, List.nil_append]) (wo := (gR G uR (uT 0) (uC 0) iR ++ gT G uT sT iT_31 jT_32 ++ gC G uC iC tC (va_up sC 5 g_30))) (by simp only [List.append_assoc, List.append_nil, List.nil_append]) 0 rfl rfl rfl hl.1 (lv_room (Nat.le_of_ble_eq_true rfl)) ⟨Nat.le_of_ble_eq_true rfl, Nat.le_of_ble_eq_true rfl⟩ ⟨Nat.zero_le _, Nat.zero_le _⟩ dX2_readPair_91 (fun H locs hP hD hS => ?_)
          refine lv_iconst (v := 1) X.hx X.hb dX2_readPair_94 (by decide) ?_
          cases hf
          subst hQ
          exact r_zret X hP hD hS (by decide) dX2_readPair_95
        · replace hf := if_f hf hc_24
          exact hj_14 _ _ _ hf hP hD hS (lv_sub hl [2] rfl)
    · replace hf := if_t hf hc_12
      refine lv_iconst (v := 0) X.hx X.hb dX2_readPair_43 (by decide) ?_
      cases hf
      subst hQ
      exact r_zret X hP hD hS (by decide) dX2_readPair_44
  · replace hf := if_t hf hc_8
    refine lv_iconst (v := 0) X.hx X.hb dX2_readPair_24 (by decide) ?_
    cases hf
    subst hQ
    exact r_zret X hP hD hS (by decide) dX2_readPair_25

def f_X2_readDeals (N : Nat) (iR : Nat → Int32) (sT : Nat → Nat → Int32) (iT : Nat → Int32) (jT : Nat → Int64) (iC : Nat → Int32) (tC : Nat → Nat → Int64) (sC : Nat → Nat → Int32) : Option (Int32 × (Nat → Int32) × (Nat → Int32) × (Nat → Int64) × (Nat → Int32)) :=
  (if (iR 2) = 0 then bd (f_X8_next N sT iT jT) (fun (iT_2, jT_3) => bd (f_X8_passNumber N sT iT_2 jT_3 1 9) (fun (r_5, iT_6, jT_7) => (if r_5 = (-1) then some (0, (va_up iR 2 1), iT_6, jT_7, (va_up iC 9 r_5)) else some (1, (va_up iR 2 1), iT_6, jT_7, (va_up iC 9 r_5))))) else bd (f_X8_refuse N sT iT jT 3) (fun (r_10, iT_11) => zb r_10 (some (r_10, iR, iT_11, jT, iC))))
set_option maxHeartbeats 4000000 in
set_option maxRecDepth 100000 in
theorem c_X2_readDeals (l : Launch) (G : GT) (N : Nat) (uR uT uC : Nat → Nat) (iR : Nat → Int32) (sT : Nat → Nat → Int32) (iT : Nat → Int32) (jT : Nat → Int64) (iC : Nat → Int32) (tC : Nat → Nat → Int64) (sC : Nat → Nat → Int32) {r : Int32} {iR' : Nat → Int32} {iT' : Nat → Int32} {jT' : Nat → Int64} {iC' : Nat → Int32} (hf : f_X2_readDeals N iR sT iT jT iC tC sC = some (r, iR', iT', jT', iC')) : CI l G yX2_readDeals cX2_readDeals 1 .boolean 4 [.ref (uR 0)] (gR G uR (uT 0) (uC 0) iR ++ gT G uT sT iT jT ++ gC G uC iC tC sC) r (gR G uR (uT 0) (uC 0) iR' ++ gT G uT sT iT' jT' ++ gC G uC iC' tC sC) := by
  refine CI.of (by decide) (Nat.le_of_ble_eq_true rfl) ?_
  intro p e s m args below meth c A X hA hP hD hS ls hl
  have hl : lv_has ls 1 [(0, .ref (uR 0))] := hl
  generalize hQ : MQ below (QI G A r (gR G uR (uT 0) (uC 0) iR' ++ gT G uT sT iT' jT' ++ gC G uC iC' tC sC)) args s 0 0 A = QQ
  unfold f_X2_readDeals at hf
  refine lv_aload_n X.hx X.hb dX2_readDeals_0 rfl (lv_at hl 0 rfl) ?_
  refine gf_X2_25 X hP 0 rfl (v := .int (iR 2)) rfl dX2_readDeals_1 ?_
  refine lv_if_eq (tgt := 16) X.hx X.hb dX2_readDeals_4 (by decide) (fun hc_1 => ?_) (fun hc_1 => ?_)
  · replace hf := if_t hf hc_1
    refine lv_aload_n X.hx X.hb dX2_readDeals_16 rfl (lv_at hl 0 rfl) ?_
    refine lv_iconst (v := 1) X.hx X.hb dX2_readDeals_17 (by decide) ?_
    refine pf_X2_25 X hP hD hS 0 rfl (by decide) (by decide) (Nat.le_of_ble_eq_true rfl) (wo := (gR G uR (uT 0) (uC 0) (va_up iR 2 1) ++ gT G uT sT iT jT ++ gC G uC iC tC sC)) rfl dX2_readDeals_18 (fun H locs hP hD hS => ?_)
    refine lv_aload_n X.hx X.hb dX2_readDeals_21 rfl (lv_at hl 0 rfl) ?_
    refine gf_X2_18 X hP 0 rfl (v := .ref (uT 0)) rfl dX2_readDeals_22 ?_
    obtain ⟨⟨iT_2, jT_3⟩, hc_4, hf⟩ := bd_i hf
    refine r_bvv (gR G uR (uT 0) (uC 0) (va_up iR 2 1)) (gC G uC iC tC sC) (As := []) (rest := []) X sm_X2_97 (c_X8_next l G N uT sT iT jT hc_4) hP hD hS hA (by simp only [List.append_assoc, List.append_nil, List.nil_append]) (wo := (gR G uR (uT 0) (uC 0) (va_up iR 2 1) ++ gT G uT sT iT_2 jT_3 ++ gC G uC iC tC sC)) (by simp only [List.append_assoc, List.append_nil, List.nil_append]) 0 rfl rfl rfl hl.1 (lv_room (Nat.le_of_ble_eq_true rfl)) ⟨Nat.le_of_ble_eq_true rfl, Nat.le_of_ble_eq_true rfl⟩ ⟨Nat.zero_le _, Nat.zero_le _⟩ dX2_readDeals_25 (fun H locs hP hD hS => ?_)
    refine lv_aload_n X.hx X.hb dX2_readDeals_28 rfl (lv_at hl 0 rfl) ?_
    refine gf_X2_12 X hP 0 rfl (v := .ref (uC 0)) rfl dX2_readDeals_29 ?_
    refine lv_aload_n X.hx X.hb dX2_readDeals_32 rfl (lv_at hl 0 rfl) ?_
    refine gf_X2_18 X hP 0 rfl (v := .ref (uT 0)) rfl dX2_readDeals_33 ?_
    refine lv_iconst (v := 1) X.hx X.hb dX2_readDeals_36 (by decide) ?_
    refine lv_bipush (v := 9) X.hx X.hb dX2_readDeals_37 (by decide) ?_
    obtain ⟨⟨r_5, iT_6, jT_7⟩, hc_8, hf⟩ := bd_i hf
    refine r_bvi (gR G uR (uT 0) (uC 0) (va_up iR 2 1)) (gC G uC iC tC sC) (As := [.int 1, .int 9]) (rest := [.ref (uC 0)]) X sm_X2_103 (c_X8_passNumber l G N uT sT iT_2 jT_3 1 9 hc_8) hP hD hS hA (by simp only [List.append_assoc, List.append_nil, List.nil_append]) (wo := (gR G uR (uT 0) (uC 0) (va_up iR 2 1) ++ gT G uT sT iT_6 jT_7 ++ gC G uC iC tC sC)) (by simp only [List.append_assoc, List.append_nil, List.nil_append]) 0 rfl rfl rfl hl.1 (lv_room (Nat.le_of_ble_eq_true rfl)) ⟨Nat.le_of_ble_eq_true rfl, Nat.le_of_ble_eq_true rfl⟩ ⟨Nat.zero_le _, Nat.zero_le _⟩ dX2_readDeals_39 (fun H locs hP hD hS => ?_)
    refine pf_X2_161 X hP hD hS 4 rfl rfl rfl (Nat.le_of_ble_eq_true rfl) (wo := (gR G uR (uT 0) (uC 0) (va_up iR 2 1) ++ gT G uT sT iT_6 jT_7 ++ gC G uC (va_up iC 9 r_5) tC sC)) rfl dX2_readDeals_42 (fun H locs hP hD hS => ?_)
    refine lv_aload_n X.hx X.hb dX2_readDeals_45 rfl (lv_at hl 0 rfl) ?_
    refine gf_X2_12 X hP 0 rfl (v := .ref (uC 0)) rfl dX2_readDeals_46 ?_
    refine gf_X2_161 X hP 4 rfl (v := .int r_5) rfl dX2_readDeals_49 ?_
    refine lv_iconst (v := (-1)) X.hx X.hb dX2_readDeals_52 (by decide) ?_
    refine lv_icmp_eq (tgt := 60) X.hx X.hb dX2_readDeals_53 (by decide) (fun hc_9 => ?_) (fun hc_9 => ?_)
    · replace hf := if_t hf hc_9
      refine lv_iconst (v := 0) X.hx X.hb dX2_readDeals_60 (by decide) ?_
      cases hf
      subst hQ
      exact r_zret X hP hD hS (by decide) dX2_readDeals_61
    · replace hf := if_f hf hc_9
      refine lv_iconst (v := 1) X.hx X.hb dX2_readDeals_56 (by decide) ?_
      refine lv_goto (tgt := 61) X.hx X.hb dX2_readDeals_57 (by decide) ?_
      cases hf
      subst hQ
      exact r_zret X hP hD hS (by decide) dX2_readDeals_61
  · replace hf := if_f hf hc_1
    refine lv_aload_n X.hx X.hb dX2_readDeals_7 rfl (lv_at hl 0 rfl) ?_
    refine gf_X2_18 X hP 0 rfl (v := .ref (uT 0)) rfl dX2_readDeals_8 ?_
    refine lv_iconst (v := 3) X.hx X.hb dX2_readDeals_11 (by decide) ?_
    obtain ⟨⟨r_10, iT_11⟩, hc_12, hf⟩ := bd_i hf
    refine r_bvi (gR G uR (uT 0) (uC 0) iR) (gC G uC iC tC sC) (As := [.int 3]) (rest := []) X sm_X2_91 (c_X8_refuse l G N uT sT iT jT 3 hc_12) hP hD hS hA (by simp only [List.append_assoc, List.append_nil, List.nil_append]) (wo := (gR G uR (uT 0) (uC 0) iR ++ gT G uT sT iT_11 jT ++ gC G uC iC tC sC)) (by simp only [List.append_assoc, List.append_nil, List.nil_append]) 0 rfl rfl rfl hl.1 (lv_room (Nat.le_of_ble_eq_true rfl)) ⟨Nat.le_of_ble_eq_true rfl, Nat.le_of_ble_eq_true rfl⟩ ⟨Nat.zero_le _, Nat.zero_le _⟩ dX2_readDeals_12 (fun H locs hP hD hS => ?_)
    obtain ⟨hb_13, hf⟩ := zb_i hf
    cases hf
    subst hQ
    exact r_zret X hP hD hS hb_13 dX2_readDeals_15

def f_X2_readVeils (N : Nat) (iR : Nat → Int32) (sT : Nat → Nat → Int32) (iT : Nat → Int32) (jT : Nat → Int64) (iC : Nat → Int32) (tC : Nat → Nat → Int64) (sC : Nat → Nat → Int32) : Option (Int32 × (Nat → Int32) × (Nat → Int32) × (Nat → Int64) × (Nat → Int32)) :=
  (if (iR 3) = 0 then bd (f_X8_next N sT iT jT) (fun (iT_2, jT_3) => bd (f_X8_passNumber N sT iT_2 jT_3 0 9) (fun (r_5, iT_6, jT_7) => (if r_5 = (-1) then some (0, (va_up iR 3 1), iT_6, jT_7, (va_up iC 10 r_5)) else some (1, (va_up iR 3 1), iT_6, jT_7, (va_up iC 10 r_5))))) else bd (f_X8_refuse N sT iT jT 3) (fun (r_10, iT_11) => zb r_10 (some (r_10, iR, iT_11, jT, iC))))
set_option maxHeartbeats 4000000 in
set_option maxRecDepth 100000 in
theorem c_X2_readVeils (l : Launch) (G : GT) (N : Nat) (uR uT uC : Nat → Nat) (iR : Nat → Int32) (sT : Nat → Nat → Int32) (iT : Nat → Int32) (jT : Nat → Int64) (iC : Nat → Int32) (tC : Nat → Nat → Int64) (sC : Nat → Nat → Int32) {r : Int32} {iR' : Nat → Int32} {iT' : Nat → Int32} {jT' : Nat → Int64} {iC' : Nat → Int32} (hf : f_X2_readVeils N iR sT iT jT iC tC sC = some (r, iR', iT', jT', iC')) : CI l G yX2_readVeils cX2_readVeils 1 .boolean 4 [.ref (uR 0)] (gR G uR (uT 0) (uC 0) iR ++ gT G uT sT iT jT ++ gC G uC iC tC sC) r (gR G uR (uT 0) (uC 0) iR' ++ gT G uT sT iT' jT' ++ gC G uC iC' tC sC) := by
  refine CI.of (by decide) (Nat.le_of_ble_eq_true rfl) ?_
  intro p e s m args below meth c A X hA hP hD hS ls hl
  have hl : lv_has ls 1 [(0, .ref (uR 0))] := hl
  generalize hQ : MQ below (QI G A r (gR G uR (uT 0) (uC 0) iR' ++ gT G uT sT iT' jT' ++ gC G uC iC' tC sC)) args s 0 0 A = QQ
  unfold f_X2_readVeils at hf
  refine lv_aload_n X.hx X.hb dX2_readVeils_0 rfl (lv_at hl 0 rfl) ?_
  refine gf_X2_29 X hP 0 rfl (v := .int (iR 3)) rfl dX2_readVeils_1 ?_
  refine lv_if_eq (tgt := 16) X.hx X.hb dX2_readVeils_4 (by decide) (fun hc_1 => ?_) (fun hc_1 => ?_)
  · replace hf := if_t hf hc_1
    refine lv_aload_n X.hx X.hb dX2_readVeils_16 rfl (lv_at hl 0 rfl) ?_
    refine lv_iconst (v := 1) X.hx X.hb dX2_readVeils_17 (by decide) ?_
    refine pf_X2_29 X hP hD hS 0 rfl (by decide) (by decide) (Nat.le_of_ble_eq_true rfl) (wo := (gR G uR (uT 0) (uC 0) (va_up iR 3 1) ++ gT G uT sT iT jT ++ gC G uC iC tC sC)) rfl dX2_readVeils_18 (fun H locs hP hD hS => ?_)
    refine lv_aload_n X.hx X.hb dX2_readVeils_21 rfl (lv_at hl 0 rfl) ?_
    refine gf_X2_18 X hP 0 rfl (v := .ref (uT 0)) rfl dX2_readVeils_22 ?_
    obtain ⟨⟨iT_2, jT_3⟩, hc_4, hf⟩ := bd_i hf
    refine r_bvv (gR G uR (uT 0) (uC 0) (va_up iR 3 1)) (gC G uC iC tC sC) (As := []) (rest := []) X sm_X2_97 (c_X8_next l G N uT sT iT jT hc_4) hP hD hS hA (by simp only [List.append_assoc, List.append_nil, List.nil_append]) (wo := (gR G uR (uT 0) (uC 0) (va_up iR 3 1) ++ gT G uT sT iT_2 jT_3 ++ gC G uC iC tC sC)) (by simp only [List.append_assoc, List.append_nil, List.nil_append]) 0 rfl rfl rfl hl.1 (lv_room (Nat.le_of_ble_eq_true rfl)) ⟨Nat.le_of_ble_eq_true rfl, Nat.le_of_ble_eq_true rfl⟩ ⟨Nat.zero_le _, Nat.zero_le _⟩ dX2_readVeils_25 (fun H locs hP hD hS => ?_)
    refine lv_aload_n X.hx X.hb dX2_readVeils_28 rfl (lv_at hl 0 rfl) ?_
    refine gf_X2_12 X hP 0 rfl (v := .ref (uC 0)) rfl dX2_readVeils_29 ?_
    refine lv_aload_n X.hx X.hb dX2_readVeils_32 rfl (lv_at hl 0 rfl) ?_
    refine gf_X2_18 X hP 0 rfl (v := .ref (uT 0)) rfl dX2_readVeils_33 ?_
    refine lv_iconst (v := 0) X.hx X.hb dX2_readVeils_36 (by decide) ?_
    refine lv_bipush (v := 9) X.hx X.hb dX2_readVeils_37 (by decide) ?_
    obtain ⟨⟨r_5, iT_6, jT_7⟩, hc_8, hf⟩ := bd_i hf
    refine r_bvi (gR G uR (uT 0) (uC 0) (va_up iR 3 1)) (gC G uC iC tC sC) (As := [.int 0, .int 9]) (rest := [.ref (uC 0)]) X sm_X2_103 (c_X8_passNumber l G N uT sT iT_2 jT_3 0 9 hc_8) hP hD hS hA (by simp only [List.append_assoc, List.append_nil, List.nil_append]) (wo := (gR G uR (uT 0) (uC 0) (va_up iR 3 1) ++ gT G uT sT iT_6 jT_7 ++ gC G uC iC tC sC)) (by simp only [List.append_assoc, List.append_nil, List.nil_append]) 0 rfl rfl rfl hl.1 (lv_room (Nat.le_of_ble_eq_true rfl)) ⟨Nat.le_of_ble_eq_true rfl, Nat.le_of_ble_eq_true rfl⟩ ⟨Nat.zero_le _, Nat.zero_le _⟩ dX2_readVeils_39 (fun H locs hP hD hS => ?_)
    refine pf_X2_164 X hP hD hS 4 rfl rfl rfl (Nat.le_of_ble_eq_true rfl) (wo := (gR G uR (uT 0) (uC 0) (va_up iR 3 1) ++ gT G uT sT iT_6 jT_7 ++ gC G uC (va_up iC 10 r_5) tC sC)) rfl dX2_readVeils_42 (fun H locs hP hD hS => ?_)
    refine lv_aload_n X.hx X.hb dX2_readVeils_45 rfl (lv_at hl 0 rfl) ?_
    refine gf_X2_12 X hP 0 rfl (v := .ref (uC 0)) rfl dX2_readVeils_46 ?_
    refine gf_X2_164 X hP 4 rfl (v := .int r_5) rfl dX2_readVeils_49 ?_
    refine lv_iconst (v := (-1)) X.hx X.hb dX2_readVeils_52 (by decide) ?_
    refine lv_icmp_eq (tgt := 60) X.hx X.hb dX2_readVeils_53 (by decide) (fun hc_9 => ?_) (fun hc_9 => ?_)
    · replace hf := if_t hf hc_9
      refine lv_iconst (v := 0) X.hx X.hb dX2_readVeils_60 (by decide) ?_
      cases hf
      subst hQ
      exact r_zret X hP hD hS (by decide) dX2_readVeils_61
    · replace hf := if_f hf hc_9
      refine lv_iconst (v := 1) X.hx X.hb dX2_readVeils_56 (by decide) ?_
      refine lv_goto (tgt := 61) X.hx X.hb dX2_readVeils_57 (by decide) ?_
      cases hf
      subst hQ
      exact r_zret X hP hD hS (by decide) dX2_readVeils_61
  · replace hf := if_f hf hc_1
    refine lv_aload_n X.hx X.hb dX2_readVeils_7 rfl (lv_at hl 0 rfl) ?_
    refine gf_X2_18 X hP 0 rfl (v := .ref (uT 0)) rfl dX2_readVeils_8 ?_
    refine lv_iconst (v := 3) X.hx X.hb dX2_readVeils_11 (by decide) ?_
    obtain ⟨⟨r_10, iT_11⟩, hc_12, hf⟩ := bd_i hf
    refine r_bvi (gR G uR (uT 0) (uC 0) iR) (gC G uC iC tC sC) (As := [.int 3]) (rest := []) X sm_X2_91 (c_X8_refuse l G N uT sT iT jT 3 hc_12) hP hD hS hA (by simp only [List.append_assoc, List.append_nil, List.nil_append]) (wo := (gR G uR (uT 0) (uC 0) iR ++ gT G uT sT iT_11 jT ++ gC G uC iC tC sC)) (by simp only [List.append_assoc, List.append_nil, List.nil_append]) 0 rfl rfl rfl hl.1 (lv_room (Nat.le_of_ble_eq_true rfl)) ⟨Nat.le_of_ble_eq_true rfl, Nat.le_of_ble_eq_true rfl⟩ ⟨Nat.zero_le _, Nat.zero_le _⟩ dX2_readVeils_12 (fun H locs hP hD hS => ?_)
    obtain ⟨hb_13, hf⟩ := zb_i hf
    cases hf
    subst hQ
    exact r_zret X hP hD hS hb_13 dX2_readVeils_15

def f_X2_readBell (N : Nat) (iR : Nat → Int32) (sT : Nat → Nat → Int32) (iT : Nat → Int32) (jT : Nat → Int64) (iC : Nat → Int32) (tC : Nat → Nat → Int64) (sC : Nat → Nat → Int32) : Option (Int32 × (Nat → Int32) × (Nat → Int32) × (Nat → Int64) × (Nat → Int32)) :=
  (if (iR 4) = 0 then bd (f_X8_next N sT iT jT) (fun (iT_2, jT_3) => bd (f_X8_passNumber N sT iT_2 jT_3 2 30) (fun (r_5, iT_6, jT_7) => (if r_5 = (-1) then some (0, (va_up iR 4 1), iT_6, jT_7, (va_up iC 11 r_5)) else some (1, (va_up iR 4 1), iT_6, jT_7, (va_up iC 11 r_5))))) else bd (f_X8_refuse N sT iT jT 3) (fun (r_10, iT_11) => zb r_10 (some (r_10, iR, iT_11, jT, iC))))
set_option maxHeartbeats 4000000 in
set_option maxRecDepth 100000 in
theorem c_X2_readBell (l : Launch) (G : GT) (N : Nat) (uR uT uC : Nat → Nat) (iR : Nat → Int32) (sT : Nat → Nat → Int32) (iT : Nat → Int32) (jT : Nat → Int64) (iC : Nat → Int32) (tC : Nat → Nat → Int64) (sC : Nat → Nat → Int32) {r : Int32} {iR' : Nat → Int32} {iT' : Nat → Int32} {jT' : Nat → Int64} {iC' : Nat → Int32} (hf : f_X2_readBell N iR sT iT jT iC tC sC = some (r, iR', iT', jT', iC')) : CI l G yX2_readBell cX2_readBell 1 .boolean 4 [.ref (uR 0)] (gR G uR (uT 0) (uC 0) iR ++ gT G uT sT iT jT ++ gC G uC iC tC sC) r (gR G uR (uT 0) (uC 0) iR' ++ gT G uT sT iT' jT' ++ gC G uC iC' tC sC) := by
  refine CI.of (by decide) (Nat.le_of_ble_eq_true rfl) ?_
  intro p e s m args below meth c A X hA hP hD hS ls hl
  have hl : lv_has ls 1 [(0, .ref (uR 0))] := hl
  generalize hQ : MQ below (QI G A r (gR G uR (uT 0) (uC 0) iR' ++ gT G uT sT iT' jT' ++ gC G uC iC' tC sC)) args s 0 0 A = QQ
  unfold f_X2_readBell at hf
  refine lv_aload_n X.hx X.hb dX2_readBell_0 rfl (lv_at hl 0 rfl) ?_
  refine gf_X2_32 X hP 0 rfl (v := .int (iR 4)) rfl dX2_readBell_1 ?_
  refine lv_if_eq (tgt := 16) X.hx X.hb dX2_readBell_4 (by decide) (fun hc_1 => ?_) (fun hc_1 => ?_)
  · replace hf := if_t hf hc_1
    refine lv_aload_n X.hx X.hb dX2_readBell_16 rfl (lv_at hl 0 rfl) ?_
    refine lv_iconst (v := 1) X.hx X.hb dX2_readBell_17 (by decide) ?_
    refine pf_X2_32 X hP hD hS 0 rfl (by decide) (by decide) (Nat.le_of_ble_eq_true rfl) (wo := (gR G uR (uT 0) (uC 0) (va_up iR 4 1) ++ gT G uT sT iT jT ++ gC G uC iC tC sC)) rfl dX2_readBell_18 (fun H locs hP hD hS => ?_)
    refine lv_aload_n X.hx X.hb dX2_readBell_21 rfl (lv_at hl 0 rfl) ?_
    refine gf_X2_18 X hP 0 rfl (v := .ref (uT 0)) rfl dX2_readBell_22 ?_
    obtain ⟨⟨iT_2, jT_3⟩, hc_4, hf⟩ := bd_i hf
    refine r_bvv (gR G uR (uT 0) (uC 0) (va_up iR 4 1)) (gC G uC iC tC sC) (As := []) (rest := []) X sm_X2_97 (c_X8_next l G N uT sT iT jT hc_4) hP hD hS hA (by simp only [List.append_assoc, List.append_nil, List.nil_append]) (wo := (gR G uR (uT 0) (uC 0) (va_up iR 4 1) ++ gT G uT sT iT_2 jT_3 ++ gC G uC iC tC sC)) (by simp only [List.append_assoc, List.append_nil, List.nil_append]) 0 rfl rfl rfl hl.1 (lv_room (Nat.le_of_ble_eq_true rfl)) ⟨Nat.le_of_ble_eq_true rfl, Nat.le_of_ble_eq_true rfl⟩ ⟨Nat.zero_le _, Nat.zero_le _⟩ dX2_readBell_25 (fun H locs hP hD hS => ?_)
    refine lv_aload_n X.hx X.hb dX2_readBell_28 rfl (lv_at hl 0 rfl) ?_
    refine gf_X2_12 X hP 0 rfl (v := .ref (uC 0)) rfl dX2_readBell_29 ?_
    refine lv_aload_n X.hx X.hb dX2_readBell_32 rfl (lv_at hl 0 rfl) ?_
    refine gf_X2_18 X hP 0 rfl (v := .ref (uT 0)) rfl dX2_readBell_33 ?_
    refine lv_iconst (v := 2) X.hx X.hb dX2_readBell_36 (by decide) ?_
    refine lv_bipush (v := 30) X.hx X.hb dX2_readBell_37 (by decide) ?_
    obtain ⟨⟨r_5, iT_6, jT_7⟩, hc_8, hf⟩ := bd_i hf
    refine r_bvi (gR G uR (uT 0) (uC 0) (va_up iR 4 1)) (gC G uC iC tC sC) (As := [.int 2, .int 30]) (rest := [.ref (uC 0)]) X sm_X2_103 (c_X8_passNumber l G N uT sT iT_2 jT_3 2 30 hc_8) hP hD hS hA (by simp only [List.append_assoc, List.append_nil, List.nil_append]) (wo := (gR G uR (uT 0) (uC 0) (va_up iR 4 1) ++ gT G uT sT iT_6 jT_7 ++ gC G uC iC tC sC)) (by simp only [List.append_assoc, List.append_nil, List.nil_append]) 0 rfl rfl rfl hl.1 (lv_room (Nat.le_of_ble_eq_true rfl)) ⟨Nat.le_of_ble_eq_true rfl, Nat.le_of_ble_eq_true rfl⟩ ⟨Nat.zero_le _, Nat.zero_le _⟩ dX2_readBell_39 (fun H locs hP hD hS => ?_)
    refine pf_X2_167 X hP hD hS 4 rfl rfl rfl (Nat.le_of_ble_eq_true rfl) (wo := (gR G uR (uT 0) (uC 0) (va_up iR 4 1) ++ gT G uT sT iT_6 jT_7 ++ gC G uC (va_up iC 11 r_5) tC sC)) rfl dX2_readBell_42 (fun H locs hP hD hS => ?_)
    refine lv_aload_n X.hx X.hb dX2_readBell_45 rfl (lv_at hl 0 rfl) ?_
    refine gf_X2_12 X hP 0 rfl (v := .ref (uC 0)) rfl dX2_readBell_46 ?_
    refine gf_X2_167 X hP 4 rfl (v := .int r_5) rfl dX2_readBell_49 ?_
    refine lv_iconst (v := (-1)) X.hx X.hb dX2_readBell_52 (by decide) ?_
    refine lv_icmp_eq (tgt := 60) X.hx X.hb dX2_readBell_53 (by decide) (fun hc_9 => ?_) (fun hc_9 => ?_)
    · replace hf := if_t hf hc_9
      refine lv_iconst (v := 0) X.hx X.hb dX2_readBell_60 (by decide) ?_
      cases hf
      subst hQ
      exact r_zret X hP hD hS (by decide) dX2_readBell_61
    · replace hf := if_f hf hc_9
      refine lv_iconst (v := 1) X.hx X.hb dX2_readBell_56 (by decide) ?_
      refine lv_goto (tgt := 61) X.hx X.hb dX2_readBell_57 (by decide) ?_
      cases hf
      subst hQ
      exact r_zret X hP hD hS (by decide) dX2_readBell_61
  · replace hf := if_f hf hc_1
    refine lv_aload_n X.hx X.hb dX2_readBell_7 rfl (lv_at hl 0 rfl) ?_
    refine gf_X2_18 X hP 0 rfl (v := .ref (uT 0)) rfl dX2_readBell_8 ?_
    refine lv_iconst (v := 3) X.hx X.hb dX2_readBell_11 (by decide) ?_
    obtain ⟨⟨r_10, iT_11⟩, hc_12, hf⟩ := bd_i hf
    refine r_bvi (gR G uR (uT 0) (uC 0) iR) (gC G uC iC tC sC) (As := [.int 3]) (rest := []) X sm_X2_91 (c_X8_refuse l G N uT sT iT jT 3 hc_12) hP hD hS hA (by simp only [List.append_assoc, List.append_nil, List.nil_append]) (wo := (gR G uR (uT 0) (uC 0) iR ++ gT G uT sT iT_11 jT ++ gC G uC iC tC sC)) (by simp only [List.append_assoc, List.append_nil, List.nil_append]) 0 rfl rfl rfl hl.1 (lv_room (Nat.le_of_ble_eq_true rfl)) ⟨Nat.le_of_ble_eq_true rfl, Nat.le_of_ble_eq_true rfl⟩ ⟨Nat.zero_le _, Nat.zero_le _⟩ dX2_readBell_12 (fun H locs hP hD hS => ?_)
    obtain ⟨hb_13, hf⟩ := zb_i hf
    cases hf
    subst hQ
    exact r_zret X hP hD hS hb_13 dX2_readBell_15

def f_X2_readLine (N : Nat) (iR : Nat → Int32) (sT : Nat → Nat → Int32) (iT : Nat → Int32) (jT : Nat → Int64) (iC : Nat → Int32) (tC : Nat → Nat → Int64) (sC : Nat → Nat → Int32) : Option (Int32 × (Nat → Int32) × (Nat → Int32) × (Nat → Int64) × (Nat → Int32) × (Nat → Nat → Int64) × (Nat → Nat → Int32)) :=
  (if (iT 7) = 0 then bd (f_X2_readPerson N iR sT iT jT iC tC sC) (fun (r_2, iT_3, jT_4, iC_5, tC_6, sC_7) => zb r_2 (some (r_2, iR, iT_3, jT_4, iC_5, tC_6, sC_7))) else (if (iT 7) = 1 then bd (f_X2_readGood N iR sT iT jT iC tC sC) (fun (r_11, iT_12, jT_13, iC_14, tC_15) => zb r_11 (some (r_11, iR, iT_12, jT_13, iC_14, tC_15, sC))) else (if (iT 7) = 2 then bd (f_X2_readSells N iR sT iT jT iC tC sC) (fun (r_19, iT_20, jT_21, sC_22) => zb r_19 (some (r_19, iR, iT_20, jT_21, iC, tC, sC_22))) else (if (iT 7) = 3 then bd (f_X2_readWants N iR sT iT jT iC tC sC) (fun (r_26, iT_27, jT_28, sC_29) => zb r_26 (some (r_26, iR, iT_27, jT_28, iC, tC, sC_29))) else (if (iT 7) = 4 then bd (f_X2_readPair_4 N iR sT iT jT iC tC sC) (fun (r_33, iT_34, jT_35, sC_36) => zb r_33 (some (r_33, iR, iT_34, jT_35, iC, tC, sC_36))) else (if (iT 7) = 5 then bd (f_X2_readPair_5 N iR sT iT jT iC tC sC) (fun (r_40, iT_41, jT_42, sC_43) => zb r_40 (some (r_40, iR, iT_41, jT_42, iC, tC, sC_43))) else (if (iT 7) = 6 then bd (f_X2_readDeals N iR sT iT jT iC tC sC) (fun (r_47, iR_48, iT_49, jT_50, iC_51) => zb r_47 (some (r_47, iR_48, iT_49, jT_50, iC_51, tC, sC))) else (if (iT 7) = 7 then bd (f_X2_readVeils N iR sT iT jT iC tC sC) (fun (r_55, iR_56, iT_57, jT_58, iC_59) => zb r_55 (some (r_55, iR_56, iT_57, jT_58, iC_59, tC, sC))) else (if (iT 7) = 8 then bd (f_X2_readBell N iR sT iT jT iC tC sC) (fun (r_63, iR_64, iT_65, jT_66, iC_67) => zb r_63 (some (r_63, iR_64, iT_65, jT_66, iC_67, tC, sC))) else bd (f_X8_refuse N sT iT jT 1) (fun (r_70, iT_71) => zb r_70 (some (r_70, iR, iT_71, jT, iC, tC, sC))))))))))))
set_option maxHeartbeats 4000000 in
set_option maxRecDepth 100000 in
theorem c_X2_readLine (l : Launch) (G : GT) (N : Nat) (uR uT uC : Nat → Nat) (iR : Nat → Int32) (sT : Nat → Nat → Int32) (iT : Nat → Int32) (jT : Nat → Int64) (iC : Nat → Int32) (tC : Nat → Nat → Int64) (sC : Nat → Nat → Int32) {r : Int32} {iR' : Nat → Int32} {iT' : Nat → Int32} {jT' : Nat → Int64} {iC' : Nat → Int32} {tC' : Nat → Nat → Int64} {sC' : Nat → Nat → Int32} (hf : f_X2_readLine N iR sT iT jT iC tC sC = some (r, iR', iT', jT', iC', tC', sC')) : CI l G yX2_readLine cX2_readLine 1 .boolean 6 [.ref (uR 0)] (gR G uR (uT 0) (uC 0) iR ++ gT G uT sT iT jT ++ gC G uC iC tC sC) r (gR G uR (uT 0) (uC 0) iR' ++ gT G uT sT iT' jT' ++ gC G uC iC' tC' sC') := by
  refine CI.of (by decide) (Nat.le_of_ble_eq_true rfl) ?_
  intro p e s m args below meth c A X hA hP hD hS ls hl
  have hl : lv_has ls 1 [(0, .ref (uR 0))] := hl
  generalize hQ : MQ below (QI G A r (gR G uR (uT 0) (uC 0) iR' ++ gT G uT sT iT' jT' ++ gC G uC iC' tC' sC')) args s 0 0 A = QQ
  unfold f_X2_readLine at hf
  refine lv_aload_n X.hx X.hb dX2_readLine_0 rfl (lv_at hl 0 rfl) ?_
  refine gf_X2_18 X hP 0 rfl (v := .ref (uT 0)) rfl dX2_readLine_1 ?_
  refine gf_X2_55 X hP 1 rfl (v := .int (iT 7)) rfl dX2_readLine_4 ?_
  by_cases hc_1 : (iT 7) = 0
  · replace hf := if_t hf hc_1
    refine lv_tableIn (tgt := 56) X.hx X.hb dX2_readLine_7 (by rw [hc_1]; decide) (by rw [hc_1]; decide) (by rw [hc_1]; rfl) (by decide) ?_
    refine lv_aload_n X.hx X.hb dX2_readLine_56 rfl (lv_at hl 0 rfl) ?_
    obtain ⟨⟨r_2, iT_3, jT_4, iC_5, tC_6, sC_7⟩, hc_8, hf⟩ := bd_i hf
    refine r_wvi (As := []) (rest := []) X sm_X2_59 (c_X2_readPerson l G N uR uT uC iR sT iT jT iC tC sC hc_8) hP hD hS hA 0 rfl rfl rfl hl.1 (lv_room (Nat.le_of_ble_eq_true rfl)) ⟨Nat.le_of_ble_eq_true rfl, Nat.le_of_ble_eq_true rfl⟩ ⟨Nat.zero_le _, Nat.zero_le _⟩ dX2_readLine_57 (fun H locs hP hD hS => ?_)
    obtain ⟨hb_9, hf⟩ := zb_i hf
    cases hf
    subst hQ
    exact r_zret X hP hD hS hb_9 dX2_readLine_60
  replace hf := if_f hf hc_1
  by_cases hc_10 : (iT 7) = 1
  · replace hf := if_t hf hc_10
    refine lv_tableIn (tgt := 61) X.hx X.hb dX2_readLine_7 (by rw [hc_10]; decide) (by rw [hc_10]; decide) (by rw [hc_10]; rfl) (by decide) ?_
    refine lv_aload_n X.hx X.hb dX2_readLine_61 rfl (lv_at hl 0 rfl) ?_
    obtain ⟨⟨r_11, iT_12, jT_13, iC_14, tC_15⟩, hc_16, hf⟩ := bd_i hf
    refine r_wvi (As := []) (rest := []) X sm_X2_62 (c_X2_readGood l G N uR uT uC iR sT iT jT iC tC sC hc_16) hP hD hS hA 0 rfl rfl rfl hl.1 (lv_room (Nat.le_of_ble_eq_true rfl)) ⟨Nat.le_of_ble_eq_true rfl, Nat.le_of_ble_eq_true rfl⟩ ⟨Nat.zero_le _, Nat.zero_le _⟩ dX2_readLine_62 (fun H locs hP hD hS => ?_)
    obtain ⟨hb_17, hf⟩ := zb_i hf
    cases hf
    subst hQ
    exact r_zret X hP hD hS hb_17 dX2_readLine_65
  replace hf := if_f hf hc_10
  by_cases hc_18 : (iT 7) = 2
  · replace hf := if_t hf hc_18
    refine lv_tableIn (tgt := 66) X.hx X.hb dX2_readLine_7 (by rw [hc_18]; decide) (by rw [hc_18]; decide) (by rw [hc_18]; rfl) (by decide) ?_
    refine lv_aload_n X.hx X.hb dX2_readLine_66 rfl (lv_at hl 0 rfl) ?_
    obtain ⟨⟨r_19, iT_20, jT_21, sC_22⟩, hc_23, hf⟩ := bd_i hf
    refine r_wvi (As := []) (rest := []) X sm_X2_65 (c_X2_readSells l G N uR uT uC iR sT iT jT iC tC sC hc_23) hP hD hS hA 0 rfl rfl rfl hl.1 (lv_room (Nat.le_of_ble_eq_true rfl)) ⟨Nat.le_of_ble_eq_true rfl, Nat.le_of_ble_eq_true rfl⟩ ⟨Nat.zero_le _, Nat.zero_le _⟩ dX2_readLine_67 (fun H locs hP hD hS => ?_)
    obtain ⟨hb_24, hf⟩ := zb_i hf
    cases hf
    subst hQ
    exact r_zret X hP hD hS hb_24 dX2_readLine_70
  replace hf := if_f hf hc_18
  by_cases hc_25 : (iT 7) = 3
  · replace hf := if_t hf hc_25
    refine lv_tableIn (tgt := 71) X.hx X.hb dX2_readLine_7 (by rw [hc_25]; decide) (by rw [hc_25]; decide) (by rw [hc_25]; rfl) (by decide) ?_
    refine lv_aload_n X.hx X.hb dX2_readLine_71 rfl (lv_at hl 0 rfl) ?_
    obtain ⟨⟨r_26, iT_27, jT_28, sC_29⟩, hc_30, hf⟩ := bd_i hf
    refine r_wvi (As := []) (rest := []) X sm_X2_68 (c_X2_readWants l G N uR uT uC iR sT iT jT iC tC sC hc_30) hP hD hS hA 0 rfl rfl rfl hl.1 (lv_room (Nat.le_of_ble_eq_true rfl)) ⟨Nat.le_of_ble_eq_true rfl, Nat.le_of_ble_eq_true rfl⟩ ⟨Nat.zero_le _, Nat.zero_le _⟩ dX2_readLine_72 (fun H locs hP hD hS => ?_)
    obtain ⟨hb_31, hf⟩ := zb_i hf
    cases hf
    subst hQ
    exact r_zret X hP hD hS hb_31 dX2_readLine_75
  replace hf := if_f hf hc_25
  by_cases hc_32 : (iT 7) = 4
  · replace hf := if_t hf hc_32
    refine lv_tableIn (tgt := 76) X.hx X.hb dX2_readLine_7 (by rw [hc_32]; decide) (by rw [hc_32]; decide) (by rw [hc_32]; rfl) (by decide) ?_
    refine lv_aload_n X.hx X.hb dX2_readLine_76 rfl (lv_at hl 0 rfl) ?_
    refine lv_aload_n X.hx X.hb dX2_readLine_77 rfl (lv_at hl 0 rfl) ?_
    refine gf_X2_12 X hP 0 rfl (v := .ref (uC 0)) rfl dX2_readLine_78 ?_
    refine gf_X2_71 X hP 4 rfl (v := .ref (uC 5)) rfl dX2_readLine_81 ?_
    obtain ⟨⟨r_33, iT_34, jT_35, sC_36⟩, hc_37, hf⟩ := bd_i hf
    refine r_wvi (As := [.ref (uC 5)]) (rest := []) X sm_X2_75 (c_X2_readPair_4 l G N uR uT uC iR sT iT jT iC tC sC hc_37) hP hD hS hA 0 rfl rfl rfl hl.1 (lv_room (Nat.le_of_ble_eq_true rfl)) ⟨Nat.le_of_ble_eq_true rfl, Nat.le_of_ble_eq_true rfl⟩ ⟨Nat.zero_le _, Nat.zero_le _⟩ dX2_readLine_84 (fun H locs hP hD hS => ?_)
    obtain ⟨hb_38, hf⟩ := zb_i hf
    cases hf
    subst hQ
    exact r_zret X hP hD hS hb_38 dX2_readLine_87
  replace hf := if_f hf hc_32
  by_cases hc_39 : (iT 7) = 5
  · replace hf := if_t hf hc_39
    refine lv_tableIn (tgt := 88) X.hx X.hb dX2_readLine_7 (by rw [hc_39]; decide) (by rw [hc_39]; decide) (by rw [hc_39]; rfl) (by decide) ?_
    refine lv_aload_n X.hx X.hb dX2_readLine_88 rfl (lv_at hl 0 rfl) ?_
    refine lv_aload_n X.hx X.hb dX2_readLine_89 rfl (lv_at hl 0 rfl) ?_
    refine gf_X2_12 X hP 0 rfl (v := .ref (uC 0)) rfl dX2_readLine_90 ?_
    refine gf_X2_79 X hP 4 rfl (v := .ref (uC 6)) rfl dX2_readLine_93 ?_
    obtain ⟨⟨r_40, iT_41, jT_42, sC_43⟩, hc_44, hf⟩ := bd_i hf
    refine r_wvi (As := [.ref (uC 6)]) (rest := []) X sm_X2_75 (c_X2_readPair_5 l G N uR uT uC iR sT iT jT iC tC sC hc_44) hP hD hS hA 0 rfl rfl rfl hl.1 (lv_room (Nat.le_of_ble_eq_true rfl)) ⟨Nat.le_of_ble_eq_true rfl, Nat.le_of_ble_eq_true rfl⟩ ⟨Nat.zero_le _, Nat.zero_le _⟩ dX2_readLine_96 (fun H locs hP hD hS => ?_)
    obtain ⟨hb_45, hf⟩ := zb_i hf
    cases hf
    subst hQ
    exact r_zret X hP hD hS hb_45 dX2_readLine_99
  replace hf := if_f hf hc_39
  by_cases hc_46 : (iT 7) = 6
  · replace hf := if_t hf hc_46
    refine lv_tableIn (tgt := 100) X.hx X.hb dX2_readLine_7 (by rw [hc_46]; decide) (by rw [hc_46]; decide) (by rw [hc_46]; rfl) (by decide) ?_
    refine lv_aload_n X.hx X.hb dX2_readLine_100 rfl (lv_at hl 0 rfl) ?_
    obtain ⟨⟨r_47, iR_48, iT_49, jT_50, iC_51⟩, hc_52, hf⟩ := bd_i hf
    refine r_wvi (As := []) (rest := []) X sm_X2_82 (c_X2_readDeals l G N uR uT uC iR sT iT jT iC tC sC hc_52) hP hD hS hA 0 rfl rfl rfl hl.1 (lv_room (Nat.le_of_ble_eq_true rfl)) ⟨Nat.le_of_ble_eq_true rfl, Nat.le_of_ble_eq_true rfl⟩ ⟨Nat.zero_le _, Nat.zero_le _⟩ dX2_readLine_101 (fun H locs hP hD hS => ?_)
    obtain ⟨hb_53, hf⟩ := zb_i hf
    cases hf
    subst hQ
    exact r_zret X hP hD hS hb_53 dX2_readLine_104
  replace hf := if_f hf hc_46
  by_cases hc_54 : (iT 7) = 7
  · replace hf := if_t hf hc_54
    refine lv_tableIn (tgt := 105) X.hx X.hb dX2_readLine_7 (by rw [hc_54]; decide) (by rw [hc_54]; decide) (by rw [hc_54]; rfl) (by decide) ?_
    refine lv_aload_n X.hx X.hb dX2_readLine_105 rfl (lv_at hl 0 rfl) ?_
    obtain ⟨⟨r_55, iR_56, iT_57, jT_58, iC_59⟩, hc_60, hf⟩ := bd_i hf
    refine r_wvi (As := []) (rest := []) X sm_X2_85 (c_X2_readVeils l G N uR uT uC iR sT iT jT iC tC sC hc_60) hP hD hS hA 0 rfl rfl rfl hl.1 (lv_room (Nat.le_of_ble_eq_true rfl)) ⟨Nat.le_of_ble_eq_true rfl, Nat.le_of_ble_eq_true rfl⟩ ⟨Nat.zero_le _, Nat.zero_le _⟩ dX2_readLine_106 (fun H locs hP hD hS => ?_)
    obtain ⟨hb_61, hf⟩ := zb_i hf
    cases hf
    subst hQ
    exact r_zret X hP hD hS hb_61 dX2_readLine_109
  replace hf := if_f hf hc_54
  by_cases hc_62 : (iT 7) = 8
  · replace hf := if_t hf hc_62
    refine lv_tableIn (tgt := 110) X.hx X.hb dX2_readLine_7 (by rw [hc_62]; decide) (by rw [hc_62]; decide) (by rw [hc_62]; rfl) (by decide) ?_
    refine lv_aload_n X.hx X.hb dX2_readLine_110 rfl (lv_at hl 0 rfl) ?_
    obtain ⟨⟨r_63, iR_64, iT_65, jT_66, iC_67⟩, hc_68, hf⟩ := bd_i hf
    refine r_wvi (As := []) (rest := []) X sm_X2_88 (c_X2_readBell l G N uR uT uC iR sT iT jT iC tC sC hc_68) hP hD hS hA 0 rfl rfl rfl hl.1 (lv_room (Nat.le_of_ble_eq_true rfl)) ⟨Nat.le_of_ble_eq_true rfl, Nat.le_of_ble_eq_true rfl⟩ ⟨Nat.zero_le _, Nat.zero_le _⟩ dX2_readLine_111 (fun H locs hP hD hS => ?_)
    obtain ⟨hb_69, hf⟩ := zb_i hf
    cases hf
    subst hQ
    exact r_zret X hP hD hS hb_69 dX2_readLine_114
  replace hf := if_f hf hc_62
  refine r_tbd (tgt := 115) X.hx X.hb dX2_readLine_7 [0, 1, 2, 3, 4, 5, 6, 7, 8] (by decide) (List.forall_mem_cons.mpr ⟨lv_neT hc_1 rfl, List.forall_mem_cons.mpr ⟨lv_neT hc_10 rfl, List.forall_mem_cons.mpr ⟨lv_neT hc_18 rfl, List.forall_mem_cons.mpr ⟨lv_neT hc_25 rfl, List.forall_mem_cons.mpr ⟨lv_neT hc_32 rfl, List.forall_mem_cons.mpr ⟨lv_neT hc_39 rfl, List.forall_mem_cons.mpr ⟨lv_neT hc_46 rfl, List.forall_mem_cons.mpr ⟨lv_neT hc_54 rfl, List.forall_mem_cons.mpr ⟨lv_neT hc_62 rfl, fun _ h => absurd h List.not_mem_nil⟩⟩⟩⟩⟩⟩⟩⟩⟩) (by decide) ?_
  refine lv_aload_n X.hx X.hb dX2_readLine_115 rfl (lv_at hl 0 rfl) ?_
  refine gf_X2_18 X hP 0 rfl (v := .ref (uT 0)) rfl dX2_readLine_116 ?_
  refine lv_iconst (v := 1) X.hx X.hb dX2_readLine_119 (by decide) ?_
  obtain ⟨⟨r_70, iT_71⟩, hc_72, hf⟩ := bd_i hf
  refine r_bvi (gR G uR (uT 0) (uC 0) iR) (gC G uC iC tC sC) (As := [.int 1]) (rest := []) X sm_X2_91 (c_X8_refuse l G N uT sT iT jT 1 hc_72) hP hD hS hA (by simp only [List.append_assoc, List.append_nil, List.nil_append]) (wo := (gR G uR (uT 0) (uC 0) iR ++ gT G uT sT iT_71 jT ++ gC G uC iC tC sC)) (by simp only [List.append_assoc, List.append_nil, List.nil_append]) 0 rfl rfl rfl hl.1 (lv_room (Nat.le_of_ble_eq_true rfl)) ⟨Nat.le_of_ble_eq_true rfl, Nat.le_of_ble_eq_true rfl⟩ ⟨Nat.zero_le _, Nat.zero_le _⟩ dX2_readLine_120 (fun H locs hP hD hS => ?_)
  obtain ⟨hb_73, hf⟩ := zb_i hf
  cases hf
  subst hQ
  exact r_zret X hP hD hS hb_73 dX2_readLine_123

def f_X2_readText_34 (N : Nat) (sT : Nat → Nat → Int32) (K_8 : ((Int32) × (Nat → Int32) × (Nat → Int32) × (Nat → Int64) × (Nat → Int32) × (Nat → Nat → Int64) × (Nat → Nat → Int32)) → Option (Int32 × (Nat → Int32) × (Nat → Int32) × (Nat → Int64) × (Nat → Int32) × (Nat → Nat → Int64) × (Nat → Nat → Int32))) : Nat → (Nat → Int32) → (Nat → Int32) → (Nat → Int64) → (Nat → Int32) → (Nat → Nat → Int64) → (Nat → Nat → Int32) → (Int32) → Option (Int32 × (Nat → Int32) × (Nat → Int32) × (Nat → Int64) × (Nat → Int32) × (Nat → Nat → Int64) × (Nat → Nat → Int32))
  | 0, _, _, _, _, _, _, _ => none
  | k + 1, iR, iT, jT, iC, tC, sC, v1 => (if (900 : Int32) ≤ v1 then K_8 (v1, iR, iT, jT, iC, tC, sC) else bd (f_X8_isAtEnd N sT iT jT) (fun r_49 => (if r_49 = 0 then bd (f_X2_readLine N iR sT iT jT iC tC sC) (fun (r_52, iR_53, iT_54, jT_55, iC_56, tC_57, sC_58) => (if r_52 = 0 then some ((-1), iR_53, iT_54, jT_55, iC_56, tC_57, sC_58) else bd (f_X8_passSign N sT iT_54 jT_55 59) (fun (r_61, iT_62, jT_63) => (if r_61 = 0 then some ((-1), iR_53, iT_62, jT_63, iC_56, tC_57, sC_58) else f_X2_readText_34 N sT K_8 k iR_53 iT_62 jT_63 iC_56 tC_57 sC_58 (v1 + 1))))) else K_8 (v1, iR, iT, jT, iC, tC, sC))))
def f_X2_readText (N : Nat) (iR : Nat → Int32) (sT : Nat → Nat → Int32) (iT : Nat → Int32) (jT : Nat → Int64) (iC : Nat → Int32) (tC : Nat → Nat → Int64) (sC : Nat → Nat → Int32) : Option (Int32 × (Nat → Int32) × (Nat → Int32) × (Nat → Int64) × (Nat → Int32) × (Nat → Nat → Int64) × (Nat → Nat → Int32)) :=
  bd (f_X1_clear N iC tC sC) (fun (iC_1, tC_2, sC_3) => bd (f_X8_open N sT iT jT 900) (fun (iT_5, jT_6) => jn (fun (z : (Int32) × (Nat → Int32) × (Nat → Int32) × (Nat → Int64) × (Nat → Int32) × (Nat → Nat → Int64) × (Nat → Nat → Int32)) => match z with | (x1_11, iR_12, iT_13, jT_14, iC_15, tC_16, sC_17) => bd (f_X8_passEnd N sT iT_13 jT_14) (fun (r_18, iT_19) => (if r_18 = 0 then some ((-1), iR_12, iT_19, jT_14, iC_15, tC_16, sC_17) else some (x1_11, iR_12, iT_19, jT_14, iC_15, tC_16, sC_17)))) (fun K_8 => f_X2_readText_34 N sT K_8 N (va_up (va_up (va_up iR 2 0) 3 0) 4 0) iT_5 jT_6 iC_1 tC_2 sC_3 0)))
set_option maxHeartbeats 4000000 in
set_option maxRecDepth 100000 in
theorem c_X2_readText (l : Launch) (G : GT) (N : Nat) (uR uT uC : Nat → Nat) (iR : Nat → Int32) (sT : Nat → Nat → Int32) (iT : Nat → Int32) (jT : Nat → Int64) (iC : Nat → Int32) (tC : Nat → Nat → Int64) (sC : Nat → Nat → Int32) {r : Int32} {iR' : Nat → Int32} {iT' : Nat → Int32} {jT' : Nat → Int64} {iC' : Nat → Int32} {tC' : Nat → Nat → Int64} {sC' : Nat → Nat → Int32} (hf : f_X2_readText N iR sT iT jT iC tC sC = some (r, iR', iT', jT', iC', tC', sC')) : CI l G yX2_readText cX2_readText 2 .int 7 [.ref (uR 0)] (gR G uR (uT 0) (uC 0) iR ++ gT G uT sT iT jT ++ gC G uC iC tC sC) r (gR G uR (uT 0) (uC 0) iR' ++ gT G uT sT iT' jT' ++ gC G uC iC' tC' sC') := by
  refine CI.of (by decide) (Nat.le_of_ble_eq_true rfl) ?_
  intro p e s m args below meth c A X hA hP hD hS ls hl
  have hl : lv_has ls 2 [(0, .ref (uR 0))] := hl
  generalize hQ : MQ below (QI G A r (gR G uR (uT 0) (uC 0) iR' ++ gT G uT sT iT' jT' ++ gC G uC iC' tC' sC')) args s 0 0 A = QQ
  unfold f_X2_readText at hf
  refine lv_aload_n X.hx X.hb dX2_readText_0 rfl (lv_at hl 0 rfl) ?_
  refine gf_X2_12 X hP 0 rfl (v := .ref (uC 0)) rfl dX2_readText_1 ?_
  obtain ⟨⟨iC_1, tC_2, sC_3⟩, hc_4, hf⟩ := bd_i hf
  refine r_bvv (gR G uR (uT 0) (uC 0) iR ++ gT G uT sT iT jT) ([] : va_W) (As := []) (rest := []) X sm_X2_22 (c_X1_clear l G N uC iC tC sC hc_4) hP hD hS hA (by simp only [List.append_assoc, List.append_nil, List.nil_append]) (wo := (gR G uR (uT 0) (uC 0) iR ++ gT G uT sT iT jT ++ gC G uC iC_1 tC_2 sC_3)) (by simp only [List.append_assoc, List.append_nil, List.nil_append]) 0 rfl rfl rfl hl.1 (lv_room (Nat.le_of_ble_eq_true rfl)) ⟨Nat.le_of_ble_eq_true rfl, Nat.le_of_ble_eq_true rfl⟩ ⟨Nat.zero_le _, Nat.zero_le _⟩ dX2_readText_4 (fun H locs hP hD hS => ?_)
  refine lv_aload_n X.hx X.hb dX2_readText_7 rfl (lv_at hl 0 rfl) ?_
  refine lv_iconst (v := 0) X.hx X.hb dX2_readText_8 (by decide) ?_
  refine pf_X2_25 X hP hD hS 0 rfl (by decide) (by decide) (Nat.le_of_ble_eq_true rfl) (wo := (gR G uR (uT 0) (uC 0) (va_up iR 2 0) ++ gT G uT sT iT jT ++ gC G uC iC_1 tC_2 sC_3)) rfl dX2_readText_9 (fun H locs hP hD hS => ?_)
  refine lv_aload_n X.hx X.hb dX2_readText_12 rfl (lv_at hl 0 rfl) ?_
  refine lv_iconst (v := 0) X.hx X.hb dX2_readText_13 (by decide) ?_
  refine pf_X2_29 X hP hD hS 0 rfl (by decide) (by decide) (Nat.le_of_ble_eq_true rfl) (wo := (gR G uR (uT 0) (uC 0) (va_up (va_up iR 2 0) 3 0) ++ gT G uT sT iT jT ++ gC G uC iC_1 tC_2 sC_3)) rfl dX2_readText_14 (fun H locs hP hD hS => ?_)
  refine lv_aload_n X.hx X.hb dX2_readText_17 rfl (lv_at hl 0 rfl) ?_
  refine lv_iconst (v := 0) X.hx X.hb dX2_readText_18 (by decide) ?_
  refine pf_X2_32 X hP hD hS 0 rfl (by decide) (by decide) (Nat.le_of_ble_eq_true rfl) (wo := (gR G uR (uT 0) (uC 0) (va_up (va_up (va_up iR 2 0) 3 0) 4 0) ++ gT G uT sT iT jT ++ gC G uC iC_1 tC_2 sC_3)) rfl dX2_readText_19 (fun H locs hP hD hS => ?_)
  refine lv_aload_n X.hx X.hb dX2_readText_22 rfl (lv_at hl 0 rfl) ?_
  refine gf_X2_18 X hP 0 rfl (v := .ref (uT 0)) rfl dX2_readText_23 ?_
  refine lv_sipush (v := 900) X.hx X.hb dX2_readText_26 (by decide) ?_
  obtain ⟨⟨iT_5, jT_6⟩, hc_7, hf⟩ := bd_i hf
  refine r_bvv (gR G uR (uT 0) (uC 0) (va_up (va_up (va_up iR 2 0) 3 0) 4 0)) (gC G uC iC_1 tC_2 sC_3) (As := [.int 900]) (rest := []) X sm_X2_35 (c_X8_open l G N uT sT iT jT 900 hc_7) hP hD hS hA (by simp only [List.append_assoc, List.append_nil, List.nil_append]) (wo := (gR G uR (uT 0) (uC 0) (va_up (va_up (va_up iR 2 0) 3 0) 4 0) ++ gT G uT sT iT_5 jT_6 ++ gC G uC iC_1 tC_2 sC_3)) (by simp only [List.append_assoc, List.append_nil, List.nil_append]) 0 rfl rfl rfl hl.1 (lv_room (Nat.le_of_ble_eq_true rfl)) ⟨Nat.le_of_ble_eq_true rfl, Nat.le_of_ble_eq_true rfl⟩ ⟨Nat.zero_le _, Nat.zero_le _⟩ dX2_readText_29 (fun H locs hP hD hS => ?_)
  refine lv_iconst (v := 0) X.hx X.hb dX2_readText_32 (by decide) ?_
  refine lv_istore_n (lv' := [(1, .int 0), (0, .ref (uR 0))]) X.hx X.hb dX2_readText_33 rfl hl (by decide) rfl (fun ls hl => ?_)
  obtain ⟨K_8, eK_10, hf⟩ := jn_i hf
  have hj_9 : ∀ (x1_11 : Int32) (iR_12 : Nat → Int32) (iT_13 : Nat → Int32) (jT_14 : Nat → Int64) (iC_15 : Nat → Int32) (tC_16 : Nat → Nat → Int64) (sC_17 : Nat → Nat → Int32) (H : Heap) (locs : List Loc) (ls : Array Slot), K_8 (x1_11, iR_12, iT_13, jT_14, iC_15, tC_16, sC_17) = some (r, iR', iT', jT', iC', tC', sC') → va_P G.1 vwCl (gR G uR (uT 0) (uC 0) iR_12 ++ gT G uT sT iT_13 jT_14 ++ gC G uC iC_15 tC_16 sC_17) H → va_D A (gR G uR (uT 0) (uC 0) iR_12 ++ gT G uT sT iT_13 jT_14 ++ gC G uC iC_15 tC_16 sC_17) → va_S A s.heap H locs → lv_has ls 2 [(0, .ref (uR 0)), (1, .int x1_11)] → W p l e (RM 7) s m args below meth c H locs 0 0 QQ (F0 m 78 ls []) := by
    intro x1_11 iR_12 iT_13 jT_14 iC_15 tC_16 sC_17 H locs ls hf hP hD hS hl
    rw [eK_10] at hf
    try dsimp only at hf
    refine lv_aload_n X.hx X.hb dX2_readText_78 rfl (lv_at hl 0 rfl) ?_
    refine gf_X2_18 X hP 0 rfl (v := .ref (uT 0)) rfl dX2_readText_79 ?_
    obtain ⟨⟨r_18, iT_19⟩, hc_20, hf⟩ := bd_i hf
    refine r_bvi (gR G uR (uT 0) (uC 0) iR_12) (gC G uC iC_15 tC_16 sC_17) (As := []) (rest := []) X sm_X2_52 (c_X8_passEnd l G N uT sT iT_13 jT_14 hc_20) hP hD hS hA (by simp only [List.append_assoc, List.append_nil, List.nil_append]) (wo := (gR G uR (uT 0) (uC 0) iR_12 ++ gT G uT sT iT_19 jT_14 ++ gC G uC iC_15 tC_16 sC_17)) (by simp only [List.append_assoc, List.append_nil, List.nil_append]) 0 rfl rfl rfl hl.1 (lv_room (Nat.le_of_ble_eq_true rfl)) ⟨Nat.le_of_ble_eq_true rfl, Nat.le_of_ble_eq_true rfl⟩ ⟨Nat.zero_le _, Nat.zero_le _⟩ dX2_readText_82 (fun H locs hP hD hS => ?_)
    refine lv_if_eq (tgt := 92) X.hx X.hb dX2_readText_85 (by decide) (fun hc_21 => ?_) (fun hc_21 => ?_)
    · replace hf := if_t hf hc_21
      refine lv_iconst (v := (-1)) X.hx X.hb dX2_readText_92 (by decide) ?_
      cases hf
      subst hQ
      exact r_iret X hP hD hS dX2_readText_93
    · replace hf := if_f hf hc_21
      refine lv_iload_n X.hx X.hb dX2_readText_88 rfl (lv_at hl 1 rfl) ?_
      refine lv_goto (tgt := 93) X.hx X.hb dX2_readText_89 (by decide) ?_
      cases hf
      subst hQ
      exact r_iret X hP hD hS dX2_readText_93
  have hlo_22 : ∀ (k : Nat) (iR_23 : Nat → Int32) (iT_24 : Nat → Int32) (jT_25 : Nat → Int64) (iC_26 : Nat → Int32) (tC_27 : Nat → Nat → Int64) (sC_28 : Nat → Nat → Int32) (v1_29 : Int32) (H : Heap) (locs : List Loc) (ls : Array Slot), f_X2_readText_34 N sT K_8 k iR_23 iT_24 jT_25 iC_26 tC_27 sC_28 v1_29 = some (r, iR', iT', jT', iC', tC', sC') → va_P G.1 vwCl (gR G uR (uT 0) (uC 0) iR_23 ++ gT G uT sT iT_24 jT_25 ++ gC G uC iC_26 tC_27 sC_28) H → va_D A (gR G uR (uT 0) (uC 0) iR_23 ++ gT G uT sT iT_24 jT_25 ++ gC G uC iC_26 tC_27 sC_28) → va_S A s.heap H locs → lv_has ls 2 [(0, .ref (uR 0)), (1, .int v1_29)] → W p l e (RM 7) s m args below meth c H locs 0 0 QQ (F0 m 34 ls []) := by
    intro k
    induction k with
    | zero => intro iR_23 iT_24 jT_25 iC_26 tC_27 sC_28 v1_29 H locs ls hf; exact absurd hf (by intro q; cases q)
    | succ k ih =>
      intro iR_23 iT_24 jT_25 iC_26 tC_27 sC_28 v1_29 H locs ls hf hP hD hS hl
      unfold f_X2_readText_34 at hf
      refine lv_iload_n X.hx X.hb dX2_readText_34 rfl (lv_at hl 1 rfl) ?_
      refine lv_sipush (v := 900) X.hx X.hb dX2_readText_35 (by decide) ?_
      refine lv_icmp_ge (tgt := 78) X.hx X.hb dX2_readText_38 (by decide) (fun hc_30 => ?_) (fun hc_30 => ?_)
      · replace hf := if_t hf hc_30
        exact hj_9 _ _ _ _ _ _ _ _ _ _ hf hP hD hS (lv_sub hl [0, 1] rfl)
      · replace hf := if_f hf hc_30
        refine lv_aload_n X.hx X.hb dX2_readText_41 rfl (lv_at hl 0 rfl) ?_
        refine gf_X2_18 X hP 0 rfl (v := .ref (uT 0)) rfl dX2_readText_42 ?_
        obtain ⟨r_31, hc_32, hf⟩ := bd_i hf
        refine r_bvi (gR G uR (uT 0) (uC 0) iR_23) (gC G uC iC_26 tC_27 sC_28) (As := []) (rest := []) X sm_X2_41 (c_X8_isAtEnd l G N uT sT iT_24 jT_25 hc_32) hP hD hS hA (by simp only [List.append_assoc, List.append_nil, List.nil_append]) (wo := (gR G uR (uT 0) (uC 0) iR_23 ++ gT G uT sT iT_24 jT_25 ++ gC G uC iC_26 tC_27 sC_28)) (by simp only [List.append_assoc, List.append_nil, List.nil_append]) 0 rfl rfl rfl hl.1 (lv_room (Nat.le_of_ble_eq_true rfl)) ⟨Nat.le_of_ble_eq_true rfl, Nat.le_of_ble_eq_true rfl⟩ ⟨Nat.zero_le _, Nat.zero_le _⟩ dX2_readText_45 (fun H locs hP hD hS => ?_)
        refine lv_if_ne (tgt := 78) X.hx X.hb dX2_readText_48 (by decide) (fun hc_33 => ?_) (fun hc_33 => ?_)
        · replace hf := if_f hf hc_33
          exact hj_9 _ _ _ _ _ _ _ _ _ _ hf hP hD hS (lv_sub hl [0, 1] rfl)
        · replace hf := if_t hf hc_33
          refine lv_aload_n X.hx X.hb dX2_readText_51 rfl (lv_at hl 0 rfl) ?_
          obtain ⟨⟨r_34, iR_35, iT_36, jT_37, iC_38, tC_39, sC_40⟩, hc_41, hf⟩ := bd_i hf
          refine r_wvi (As := []) (rest := []) X sm_X2_45 (c_X2_readLine l G N uR uT uC iR_23 sT iT_24 jT_25 iC_26 tC_27 sC_28 hc_41) hP hD hS hA 0 rfl rfl rfl hl.1 (lv_room (Nat.le_of_ble_eq_true rfl)) ⟨Nat.le_of_ble_eq_true rfl, Nat.le_of_ble_eq_true rfl⟩ ⟨Nat.zero_le _, Nat.zero_le _⟩ dX2_readText_52 (fun H locs hP hD hS => ?_)
          refine lv_if_eq (tgt := 70) X.hx X.hb dX2_readText_55 (by decide) (fun hc_42 => ?_) (fun hc_42 => ?_)
          · replace hf := if_t hf hc_42
            refine lv_iconst (v := (-1)) X.hx X.hb dX2_readText_70 (by decide) ?_
            cases hf
            subst hQ
            exact r_iret X hP hD hS dX2_readText_71
          · replace hf := if_f hf hc_42
            refine lv_aload_n X.hx X.hb dX2_readText_58 rfl (lv_at hl 0 rfl) ?_
            refine gf_X2_18 X hP 0 rfl (v := .ref (uT 0)) rfl dX2_readText_59 ?_
            refine lv_bipush (v := 59) X.hx X.hb dX2_readText_62 (by decide) ?_
            obtain ⟨⟨r_43, iT_44, jT_45⟩, hc_46, hf⟩ := bd_i hf
            refine r_bvi (gR G uR (uT 0) (uC 0) iR_35) (gC G uC iC_38 tC_39 sC_40) (As := [.int 59]) (rest := []) X sm_X2_48 (c_X8_passSign l G N uT sT iT_36 jT_37 59 hc_46) hP hD hS hA (by simp only [List.append_assoc, List.append_nil, List.nil_append]) (wo := (gR G uR (uT 0) (uC 0) iR_35 ++ gT G uT sT iT_44 jT_45 ++ gC G uC iC_38 tC_39 sC_40)) (by simp only [List.append_assoc, List.append_nil, List.nil_append]) 0 rfl rfl rfl hl.1 (lv_room (Nat.le_of_ble_eq_true rfl)) ⟨Nat.le_of_ble_eq_true rfl, Nat.le_of_ble_eq_true rfl⟩ ⟨Nat.zero_le _, Nat.zero_le _⟩ dX2_readText_64 (fun H locs hP hD hS => ?_)
            refine lv_if_ne (tgt := 72) X.hx X.hb dX2_readText_67 (by decide) (fun hc_47 => ?_) (fun hc_47 => ?_)
            · replace hf := if_f hf hc_47
              refine lv_iinc (v := (v1_29 + 1)) (lv' := [(1, .int (v1_29 + 1)), (0, .ref (uR 0))]) X.hx X.hb dX2_readText_72 hl (k := 1) rfl rfl (by decide) rfl (fun ls hl => ?_)
              refine lv_goto (tgt := 34) X.hx X.hb dX2_readText_75 (by decide) ?_
              exact ih _ _ _ _ _ _ _ _ _ _ hf hP hD hS (lv_sub hl [1, 0] rfl)
            · replace hf := if_t hf hc_47
              refine lv_iconst (v := (-1)) X.hx X.hb dX2_readText_70 (by decide) ?_
              cases hf
              subst hQ
              exact r_iret X hP hD hS dX2_readText_71
  exact hlo_22 N _ _ _ _ _ _ _ _ _ _ hf hP hD hS (lv_sub hl [1, 0] rfl)

def f_X4_forget (N : Nat) (iM : Nat → Int32) (sM : Nat → Nat → Int32) (iC : Nat → Int32) (tC : Nat → Nat → Int64) (sC : Nat → Nat → Int32) : Option ((Nat → Nat → Int32)) :=
  nv (fl_i 7 (sM 8) 0) (fun g_1 => nv (fl_i 49 (sM 11) 0) (fun g_2 => some (va_up (va_up sM 8 g_1) 11 g_2)))
set_option maxHeartbeats 4000000 in
set_option maxRecDepth 100000 in
theorem c_X4_forget (l : Launch) (G : GT) (N : Nat) (uM uC : Nat → Nat) (iM : Nat → Int32) (sM : Nat → Nat → Int32) (iC : Nat → Int32) (tC : Nat → Nat → Int64) (sC : Nat → Nat → Int32) {sM' : Nat → Nat → Int32} (hf : f_X4_forget N iM sM iC tC sC = some sM') : CV l G yX4_forget cX4_forget 1 2 [.ref (uM 0)] (gM G uM (uC 0) iM sM ++ gC G uC iC tC sC) (gM G uM (uC 0) iM sM' ++ gC G uC iC tC sC) := by
  refine CV.of (by decide) (Nat.le_of_ble_eq_true rfl) ?_
  intro p e s m args below meth c A X hA hP hD hS ls hl
  have hl : lv_has ls 1 [(0, .ref (uM 0))] := hl
  generalize hQ : MQ below (QV G A (gM G uM (uC 0) iM sM' ++ gC G uC iC tC sC)) args s 0 0 A = QQ
  unfold f_X4_forget at hf
  refine lv_aload_n X.hx X.hb dX4_forget_0 rfl (lv_at hl 0 rfl) ?_
  refine gf_X4_18 X hP 0 rfl (v := .ref (uM 9)) rfl dX4_forget_1 ?_
  refine lv_iconst (v := 0) X.hx X.hb dX4_forget_4 (by decide) ?_
  obtain ⟨g_1, eg_1, hf⟩ := nv_i hf
  refine r_filli (rest := []) X sm_X4_50 hP hD hS hA 3 (f := (sM 8)) rfl (Nat.le_of_ble_eq_true rfl) hl.1 (lv_room (Nat.le_of_ble_eq_true rfl)) ⟨Nat.le_of_ble_eq_true rfl, Nat.le_of_ble_eq_true rfl⟩ ⟨Nat.zero_le _, Nat.zero_le _⟩ (wo := (gM G uM (uC 0) iM (va_up sM 8 g_1) ++ gC G uC iC tC sC)) (by subst eg_1; rfl) dX4_forget_5 (fun H locs hP hD hS => ?_)
  refine lv_aload_n X.hx X.hb dX4_forget_8 rfl (lv_at hl 0 rfl) ?_
  refine gf_X4_27 X hP 0 rfl (v := .ref (uM 12)) rfl dX4_forget_9 ?_
  refine lv_iconst (v := 0) X.hx X.hb dX4_forget_12 (by decide) ?_
  obtain ⟨g_2, eg_2, hf⟩ := nv_i hf
  refine r_filli (rest := []) X sm_X4_50 hP hD hS hA 6 (f := (sM 11)) rfl (Nat.le_of_ble_eq_true rfl) hl.1 (lv_room (Nat.le_of_ble_eq_true rfl)) ⟨Nat.le_of_ble_eq_true rfl, Nat.le_of_ble_eq_true rfl⟩ ⟨Nat.zero_le _, Nat.zero_le _⟩ (wo := (gM G uM (uC 0) iM (va_up (va_up sM 8 g_1) 11 g_2) ++ gC G uC iC tC sC)) (by subst eg_2; rfl) dX4_forget_13 (fun H locs hP hD hS => ?_)
  cases hf
  subst hQ
  exact r_vret X hP hD hS dX4_forget_16

def f_X4_dawn (N : Nat) (iM : Nat → Int32) (sM : Nat → Nat → Int32) (iC : Nat → Int32) (tC : Nat → Nat → Int64) (sC : Nat → Nat → Int32) : Option ((Nat → Int32) × (Nat → Nat → Int32)) :=
  nv (va_cpy (sC 6) (sM 9) 0 0 35) (fun g_1 => nv (va_cpy (sC 7) (sM 10) 0 0 35) (fun g_2 => some ((va_up (va_up (va_up iM 2 0) 3 0) 4 (iC 10)), (va_up (va_up sM 9 g_1) 10 g_2))))
set_option maxHeartbeats 4000000 in
set_option maxRecDepth 100000 in
theorem c_X4_dawn (l : Launch) (G : GT) (N : Nat) (uM uC : Nat → Nat) (iM : Nat → Int32) (sM : Nat → Nat → Int32) (iC : Nat → Int32) (tC : Nat → Nat → Int64) (sC : Nat → Nat → Int32) {iM' : Nat → Int32} {sM' : Nat → Nat → Int32} (hf : f_X4_dawn N iM sM iC tC sC = some (iM', sM')) : CV l G yX4_dawn cX4_dawn 1 2 [.ref (uM 0)] (gM G uM (uC 0) iM sM ++ gC G uC iC tC sC) (gM G uM (uC 0) iM' sM' ++ gC G uC iC tC sC) := by
  refine CV.of (by decide) (Nat.le_of_ble_eq_true rfl) ?_
  intro p e s m args below meth c A X hA hP hD hS ls hl
  have hl : lv_has ls 1 [(0, .ref (uM 0))] := hl
  generalize hQ : MQ below (QV G A (gM G uM (uC 0) iM' sM' ++ gC G uC iC tC sC)) args s 0 0 A = QQ
  unfold f_X4_dawn at hf
  refine lv_aload_n X.hx X.hb dX4_dawn_0 rfl (lv_at hl 0 rfl) ?_
  refine gf_X4_30 X hP 0 rfl (v := .ref (uC 0)) rfl dX4_dawn_1 ?_
  refine gf_X4_71 X hP 7 rfl (v := .ref (uC 7)) rfl dX4_dawn_4 ?_
  refine lv_iconst (v := 0) X.hx X.hb dX4_dawn_7 (by decide) ?_
  refine lv_aload_n X.hx X.hb dX4_dawn_8 rfl (lv_at hl 0 rfl) ?_
  refine gf_X4_21 X hP 0 rfl (v := .ref (uM 10)) rfl dX4_dawn_9 ?_
  refine lv_iconst (v := 0) X.hx X.hb dX4_dawn_12 (by decide) ?_
  refine lv_bipush (v := 35) X.hx X.hb dX4_dawn_13 (by decide) ?_
  obtain ⟨g_1, eg_1, hf⟩ := nv_i hf
  refine r_copyi X tw_506 hP hD hS 12 4 (f := (sC 6)) (g := (sM 9)) rfl rfl (by decide) (by decide) (by decide) (Nat.le_of_ble_eq_true rfl) (Nat.le_of_ble_eq_true rfl) hl.1 (Nat.le_of_ble_eq_true rfl) (Nat.le_of_ble_eq_true rfl) (wo := (gM G uM (uC 0) iM (va_up sM 9 g_1) ++ gC G uC iC tC sC)) (by subst eg_1; rfl) dX4_dawn_15 (fun H locs hP hD hS => ?_)
  refine lv_aload_n X.hx X.hb dX4_dawn_18 rfl (lv_at hl 0 rfl) ?_
  refine gf_X4_30 X hP 0 rfl (v := .ref (uC 0)) rfl dX4_dawn_19 ?_
  refine gf_X4_72 X hP 7 rfl (v := .ref (uC 8)) rfl dX4_dawn_22 ?_
  refine lv_iconst (v := 0) X.hx X.hb dX4_dawn_25 (by decide) ?_
  refine lv_aload_n X.hx X.hb dX4_dawn_26 rfl (lv_at hl 0 rfl) ?_
  refine gf_X4_24 X hP 0 rfl (v := .ref (uM 11)) rfl dX4_dawn_27 ?_
  refine lv_iconst (v := 0) X.hx X.hb dX4_dawn_30 (by decide) ?_
  refine lv_bipush (v := 35) X.hx X.hb dX4_dawn_31 (by decide) ?_
  obtain ⟨g_2, eg_2, hf⟩ := nv_i hf
  refine r_copyi X tw_506 hP hD hS 13 5 (f := (sC 7)) (g := (sM 10)) rfl rfl (by decide) (by decide) (by decide) (Nat.le_of_ble_eq_true rfl) (Nat.le_of_ble_eq_true rfl) hl.1 (Nat.le_of_ble_eq_true rfl) (Nat.le_of_ble_eq_true rfl) (wo := (gM G uM (uC 0) iM (va_up (va_up sM 9 g_1) 10 g_2) ++ gC G uC iC tC sC)) (by subst eg_2; rfl) dX4_dawn_33 (fun H locs hP hD hS => ?_)
  refine lv_aload_n X.hx X.hb dX4_dawn_36 rfl (lv_at hl 0 rfl) ?_
  refine lv_iconst (v := 0) X.hx X.hb dX4_dawn_37 (by decide) ?_
  refine pf_X4_62 X hP hD hS 0 rfl rfl rfl (Nat.le_of_ble_eq_true rfl) (wo := (gM G uM (uC 0) (va_up iM 2 0) (va_up (va_up sM 9 g_1) 10 g_2) ++ gC G uC iC tC sC)) rfl dX4_dawn_38 (fun H locs hP hD hS => ?_)
  refine lv_aload_n X.hx X.hb dX4_dawn_41 rfl (lv_at hl 0 rfl) ?_
  refine lv_iconst (v := 0) X.hx X.hb dX4_dawn_42 (by decide) ?_
  refine pf_X4_65 X hP hD hS 0 rfl rfl rfl (Nat.le_of_ble_eq_true rfl) (wo := (gM G uM (uC 0) (va_up (va_up iM 2 0) 3 0) (va_up (va_up sM 9 g_1) 10 g_2) ++ gC G uC iC tC sC)) rfl dX4_dawn_43 (fun H locs hP hD hS => ?_)
  refine lv_aload_n X.hx X.hb dX4_dawn_46 rfl (lv_at hl 0 rfl) ?_
  refine lv_aload_n X.hx X.hb dX4_dawn_47 rfl (lv_at hl 0 rfl) ?_
  refine gf_X4_30 X hP 0 rfl (v := .ref (uC 0)) rfl dX4_dawn_48 ?_
  refine gf_X4_73 X hP 7 rfl (v := .int (iC 10)) rfl dX4_dawn_51 ?_
  refine pf_X4_68 X hP hD hS 0 rfl rfl rfl (Nat.le_of_ble_eq_true rfl) (wo := (gM G uM (uC 0) (va_up (va_up (va_up iM 2 0) 3 0) 4 (iC 10)) (va_up (va_up sM 9 g_1) 10 g_2) ++ gC G uC iC tC sC)) rfl dX4_dawn_54 (fun H locs hP hD hS => ?_)
  cases hf
  subst hQ
  exact r_vret X hP hD hS dX4_dawn_57

def f_X4_begin (N : Nat) (iM : Nat → Int32) (sM : Nat → Nat → Int32) (iC : Nat → Int32) (tC : Nat → Nat → Int64) (sC : Nat → Nat → Int32) : Option ((Nat → Int32) × (Nat → Nat → Int32)) :=
  nv (va_cpy (sC 3) (sM 6) 0 0 7) (fun g_1 => nv (fl_i 7 (sM 7) 0) (fun g_2 => bd (f_X4_forget N (va_up (va_up iM 1 0) 5 0) (va_up (va_up sM 6 g_1) 7 g_2) iC tC sC) (fun sM_3 => bd (f_X4_dawn N (va_up (va_up iM 1 0) 5 0) sM_3 iC tC sC) (fun (iM_5, sM_6) => some (iM_5, sM_6)))))
set_option maxHeartbeats 4000000 in
set_option maxRecDepth 100000 in
theorem c_X4_begin (l : Launch) (G : GT) (N : Nat) (uM uC : Nat → Nat) (iM : Nat → Int32) (sM : Nat → Nat → Int32) (iC : Nat → Int32) (tC : Nat → Nat → Int64) (sC : Nat → Nat → Int32) {iM' : Nat → Int32} {sM' : Nat → Nat → Int32} (hf : f_X4_begin N iM sM iC tC sC = some (iM', sM')) : CV l G yX4_begin cX4_begin 1 3 [.ref (uM 0)] (gM G uM (uC 0) iM sM ++ gC G uC iC tC sC) (gM G uM (uC 0) iM' sM' ++ gC G uC iC tC sC) := by
  refine CV.of (by decide) (Nat.le_of_ble_eq_true rfl) ?_
  intro p e s m args below meth c A X hA hP hD hS ls hl
  have hl : lv_has ls 1 [(0, .ref (uM 0))] := hl
  generalize hQ : MQ below (QV G A (gM G uM (uC 0) iM' sM' ++ gC G uC iC tC sC)) args s 0 0 A = QQ
  unfold f_X4_begin at hf
  refine lv_aload_n X.hx X.hb dX4_begin_0 rfl (lv_at hl 0 rfl) ?_
  refine lv_iconst (v := 0) X.hx X.hb dX4_begin_1 (by decide) ?_
  refine pf_X4_34 X hP hD hS 0 rfl rfl rfl (Nat.le_of_ble_eq_true rfl) (wo := (gM G uM (uC 0) (va_up iM 1 0) sM ++ gC G uC iC tC sC)) rfl dX4_begin_2 (fun H locs hP hD hS => ?_)
  refine lv_aload_n X.hx X.hb dX4_begin_5 rfl (lv_at hl 0 rfl) ?_
  refine lv_iconst (v := 0) X.hx X.hb dX4_begin_6 (by decide) ?_
  refine pf_X4_38 X hP hD hS 0 rfl rfl rfl (Nat.le_of_ble_eq_true rfl) (wo := (gM G uM (uC 0) (va_up (va_up iM 1 0) 5 0) sM ++ gC G uC iC tC sC)) rfl dX4_begin_7 (fun H locs hP hD hS => ?_)
  refine lv_aload_n X.hx X.hb dX4_begin_10 rfl (lv_at hl 0 rfl) ?_
  refine gf_X4_30 X hP 0 rfl (v := .ref (uC 0)) rfl dX4_begin_11 ?_
  refine gf_X4_41 X hP 7 rfl (v := .ref (uC 4)) rfl dX4_begin_14 ?_
  refine lv_iconst (v := 0) X.hx X.hb dX4_begin_17 (by decide) ?_
  refine lv_aload_n X.hx X.hb dX4_begin_18 rfl (lv_at hl 0 rfl) ?_
  refine gf_X4_9 X hP 0 rfl (v := .ref (uM 7)) rfl dX4_begin_19 ?_
  refine lv_iconst (v := 0) X.hx X.hb dX4_begin_22 (by decide) ?_
  refine lv_bipush (v := 7) X.hx X.hb dX4_begin_23 (by decide) ?_
  obtain ⟨g_1, eg_1, hf⟩ := nv_i hf
  refine r_copyi X tw_506 hP hD hS 9 1 (f := (sC 3)) (g := (sM 6)) rfl rfl (by decide) (by decide) (by decide) (Nat.le_of_ble_eq_true rfl) (Nat.le_of_ble_eq_true rfl) hl.1 (Nat.le_of_ble_eq_true rfl) (Nat.le_of_ble_eq_true rfl) (wo := (gM G uM (uC 0) (va_up (va_up iM 1 0) 5 0) (va_up sM 6 g_1) ++ gC G uC iC tC sC)) (by subst eg_1; rfl) dX4_begin_25 (fun H locs hP hD hS => ?_)
  refine lv_aload_n X.hx X.hb dX4_begin_28 rfl (lv_at hl 0 rfl) ?_
  refine gf_X4_15 X hP 0 rfl (v := .ref (uM 8)) rfl dX4_begin_29 ?_
  refine lv_iconst (v := 0) X.hx X.hb dX4_begin_32 (by decide) ?_
  obtain ⟨g_2, eg_2, hf⟩ := nv_i hf
  refine r_filli (rest := []) X sm_X4_50 hP hD hS hA 2 (f := (sM 7)) rfl (Nat.le_of_ble_eq_true rfl) hl.1 (lv_room (Nat.le_of_ble_eq_true rfl)) ⟨Nat.le_of_ble_eq_true rfl, Nat.le_of_ble_eq_true rfl⟩ ⟨Nat.zero_le _, Nat.zero_le _⟩ (wo := (gM G uM (uC 0) (va_up (va_up iM 1 0) 5 0) (va_up (va_up sM 6 g_1) 7 g_2) ++ gC G uC iC tC sC)) (by subst eg_2; rfl) dX4_begin_33 (fun H locs hP hD hS => ?_)
  refine lv_aload_n X.hx X.hb dX4_begin_36 rfl (lv_at hl 0 rfl) ?_
  obtain ⟨sM_3, hc_4, hf⟩ := bd_i hf
  refine r_wvv (As := []) (rest := []) X sm_X4_56 (c_X4_forget l G N uM uC (va_up (va_up iM 1 0) 5 0) (va_up (va_up sM 6 g_1) 7 g_2) iC tC sC hc_4) hP hD hS hA 0 rfl rfl rfl hl.1 (lv_room (Nat.le_of_ble_eq_true rfl)) ⟨Nat.le_of_ble_eq_true rfl, Nat.le_of_ble_eq_true rfl⟩ ⟨Nat.zero_le _, Nat.zero_le _⟩ dX4_begin_37 (fun H locs hP hD hS => ?_)
  refine lv_aload_n X.hx X.hb dX4_begin_40 rfl (lv_at hl 0 rfl) ?_
  obtain ⟨⟨iM_5, sM_6⟩, hc_7, hf⟩ := bd_i hf
  refine r_wvv (As := []) (rest := []) X sm_X4_59 (c_X4_dawn l G N uM uC (va_up (va_up iM 1 0) 5 0) sM_3 iC tC sC hc_7) hP hD hS hA 0 rfl rfl rfl hl.1 (lv_room (Nat.le_of_ble_eq_true rfl)) ⟨Nat.le_of_ble_eq_true rfl, Nat.le_of_ble_eq_true rfl⟩ ⟨Nat.zero_le _, Nat.zero_le _⟩ dX4_begin_41 (fun H locs hP hD hS => ?_)
  cases hf
  subst hQ
  exact r_vret X hP hD hS dX4_begin_44

def f_X4_known (N : Nat) (iM : Nat → Int32) (sM : Nat → Nat → Int32) (iC : Nat → Int32) (tC : Nat → Nat → Int64) (sC : Nat → Nat → Int32) (p1 : Int32) : Option (Int32) :=
  ck p1 7 (ck p1 7 (some (((sC 4) (ix p1)) ||| ((sM 8) (ix p1)))))
set_option maxHeartbeats 4000000 in
set_option maxRecDepth 100000 in
theorem c_X4_known (l : Launch) (G : GT) (N : Nat) (uM uC : Nat → Nat) (iM : Nat → Int32) (sM : Nat → Nat → Int32) (iC : Nat → Int32) (tC : Nat → Nat → Int64) (sC : Nat → Nat → Int32) (p1 : Int32) {r : Int32} (hf : f_X4_known N iM sM iC tC sC p1 = some r) : CI l G yX4_known cX4_known 2 .int 1 [.ref (uM 0), .int p1] (gM G uM (uC 0) iM sM ++ gC G uC iC tC sC) r (gM G uM (uC 0) iM sM ++ gC G uC iC tC sC) := by
  refine CI.of (by decide) (Nat.le_of_ble_eq_true rfl) ?_
  intro p e s m args below meth c A X hA hP hD hS ls hl
  have hl : lv_has ls 2 [(0, .ref (uM 0)), (1, .int p1)] := hl
  generalize hQ : MQ below (QI G A r (gM G uM (uC 0) iM sM ++ gC G uC iC tC sC)) args s 0 0 A = QQ
  unfold f_X4_known at hf
  refine lv_aload_n X.hx X.hb dX4_known_0 rfl (lv_at hl 0 rfl) ?_
  refine gf_X4_30 X hP 0 rfl (v := .ref (uC 0)) rfl dX4_known_1 ?_
  refine gf_X4_76 X hP 7 rfl (v := .ref (uC 5)) rfl dX4_known_4 ?_
  refine lv_iload_n X.hx X.hb dX4_known_7 rfl (lv_at hl 1 rfl) ?_
  obtain ⟨hi_1, hf⟩ := ck_i hf
  refine r_iald X hP 10 (f := (sC 4)) rfl hi_1 dX4_known_8 ?_
  refine lv_aload_n X.hx X.hb dX4_known_9 rfl (lv_at hl 0 rfl) ?_
  refine gf_X4_18 X hP 0 rfl (v := .ref (uM 9)) rfl dX4_known_10 ?_
  refine lv_iload_n X.hx X.hb dX4_known_13 rfl (lv_at hl 1 rfl) ?_
  obtain ⟨hi_2, hf⟩ := ck_i hf
  refine r_iald X hP 3 (f := (sM 8)) rfl hi_2 dX4_known_14 ?_
  refine lv_ior X.hx X.hb dX4_known_15 ?_
  cases hf
  subst hQ
  exact r_iret X hP hD hS dX4_known_16

def f_X4_dealable (N : Nat) (iM : Nat → Int32) (sM : Nat → Nat → Int32) (iC : Nat → Int32) (tC : Nat → Nat → Int64) (sC : Nat → Nat → Int32) (p1 : Int32) : Option (Int32) :=
  bd (f_X4_known N iM sM iC tC sC p1) (fun r_1 => ck p1 7 (bd (f_X1_everyone N iC tC sC) (fun r_4 => some ((((r_1 ^^^ (-1)) ||| ((sC 5) (ix p1))) &&& r_4) &&& (((1 : Int32) <<< (p1 &&& 31)) ^^^ (-1))))))
set_option maxHeartbeats 4000000 in
set_option maxRecDepth 100000 in
theorem c_X4_dealable (l : Launch) (G : GT) (N : Nat) (uM uC : Nat → Nat) (iM : Nat → Int32) (sM : Nat → Nat → Int32) (iC : Nat → Int32) (tC : Nat → Nat → Int64) (sC : Nat → Nat → Int32) (p1 : Int32) {r : Int32} (hf : f_X4_dealable N iM sM iC tC sC p1 = some r) : CI l G yX4_dealable cX4_dealable 2 .int 2 [.ref (uM 0), .int p1] (gM G uM (uC 0) iM sM ++ gC G uC iC tC sC) r (gM G uM (uC 0) iM sM ++ gC G uC iC tC sC) := by
  refine CI.of (by decide) (Nat.le_of_ble_eq_true rfl) ?_
  intro p e s m args below meth c A X hA hP hD hS ls hl
  have hl : lv_has ls 2 [(0, .ref (uM 0)), (1, .int p1)] := hl
  generalize hQ : MQ below (QI G A r (gM G uM (uC 0) iM sM ++ gC G uC iC tC sC)) args s 0 0 A = QQ
  unfold f_X4_dealable at hf
  refine lv_aload_n X.hx X.hb dX4_dealable_0 rfl (lv_at hl 0 rfl) ?_
  refine lv_iload_n X.hx X.hb dX4_dealable_1 rfl (lv_at hl 1 rfl) ?_
  obtain ⟨r_1, hc_2, hf⟩ := bd_i hf
  refine r_wvi (As := [.int p1]) (rest := []) X sm_X4_79 (c_X4_known l G N uM uC iM sM iC tC sC p1 hc_2) hP hD hS hA 0 rfl rfl rfl hl.1 (lv_room (Nat.le_of_ble_eq_true rfl)) ⟨Nat.le_of_ble_eq_true rfl, Nat.le_of_ble_eq_true rfl⟩ ⟨Nat.zero_le _, Nat.zero_le _⟩ dX4_dealable_2 (fun H locs hP hD hS => ?_)
  refine lv_iconst (v := (-1)) X.hx X.hb dX4_dealable_5 (by decide) ?_
  refine lv_ixor X.hx X.hb dX4_dealable_6 ?_
  refine lv_aload_n X.hx X.hb dX4_dealable_7 rfl (lv_at hl 0 rfl) ?_
  refine gf_X4_30 X hP 0 rfl (v := .ref (uC 0)) rfl dX4_dealable_8 ?_
  refine gf_X4_83 X hP 7 rfl (v := .ref (uC 6)) rfl dX4_dealable_11 ?_
  refine lv_iload_n X.hx X.hb dX4_dealable_14 rfl (lv_at hl 1 rfl) ?_
  obtain ⟨hi_3, hf⟩ := ck_i hf
  refine r_iald X hP 11 (f := (sC 5)) rfl hi_3 dX4_dealable_15 ?_
  refine lv_ior X.hx X.hb dX4_dealable_16 ?_
  refine lv_aload_n X.hx X.hb dX4_dealable_17 rfl (lv_at hl 0 rfl) ?_
  refine gf_X4_30 X hP 0 rfl (v := .ref (uC 0)) rfl dX4_dealable_18 ?_
  obtain ⟨r_4, hc_5, hf⟩ := bd_i hf
  refine r_bvi (gM G uM (uC 0) iM sM) ([] : va_W) (As := []) (rest := [.int ((r_1 ^^^ (-1)) ||| ((sC 5) (ix p1)))]) X sm_X4_86 (c_X1_everyone l G N uC iC tC sC hc_5) hP hD hS hA (by simp only [List.append_assoc, List.append_nil, List.nil_append]) (wo := (gM G uM (uC 0) iM sM ++ gC G uC iC tC sC)) (by simp only [List.append_assoc, List.append_nil, List.nil_append]) 0 rfl rfl rfl hl.1 (lv_room (Nat.le_of_ble_eq_true rfl)) ⟨Nat.le_of_ble_eq_true rfl, Nat.le_of_ble_eq_true rfl⟩ ⟨Nat.zero_le _, Nat.zero_le _⟩ dX4_dealable_21 (fun H locs hP hD hS => ?_)
  refine lv_iand X.hx X.hb dX4_dealable_24 ?_
  refine lv_iconst (v := 1) X.hx X.hb dX4_dealable_25 (by decide) ?_
  refine lv_iload_n X.hx X.hb dX4_dealable_26 rfl (lv_at hl 1 rfl) ?_
  refine lv_ishl X.hx X.hb dX4_dealable_27 ?_
  refine lv_iconst (v := (-1)) X.hx X.hb dX4_dealable_28 (by decide) ?_
  refine lv_ixor X.hx X.hb dX4_dealable_29 ?_
  refine lv_iand X.hx X.hb dX4_dealable_30 ?_
  cases hf
  subst hQ
  exact r_iret X hP hD hS dX4_dealable_31

def f_X4_wanting_4 (N : Nat) (iM : Nat → Int32) (sM : Nat → Nat → Int32) (iC : Nat → Int32) (tC : Nat → Nat → Int64) (sC : Nat → Nat → Int32) (v1 : Int32) : Nat → (Int32) → (Int32) → Option (Int32)
  | 0, _, _ => none
  | k + 1, v2, v3 => (if (5 : Int32) ≤ v3 then some v2 else bd (f_X10_cellOf N v1 v3) (fun r_10 => ck r_10 35 (nv (v2 + ((sM 10) (ix r_10))) (fun n_13 => f_X4_wanting_4 N iM sM iC tC sC v1 k n_13 (v3 + 1)))))
def f_X4_wanting (N : Nat) (iM : Nat → Int32) (sM : Nat → Nat → Int32) (iC : Nat → Int32) (tC : Nat → Nat → Int64) (sC : Nat → Nat → Int32) (p1 : Int32) : Option (Int32) :=
  f_X4_wanting_4 N iM sM iC tC sC p1 N 0 0
set_option maxHeartbeats 4000000 in
set_option maxRecDepth 100000 in
theorem c_X4_wanting (l : Launch) (G : GT) (N : Nat) (uM uC : Nat → Nat) (iM : Nat → Int32) (sM : Nat → Nat → Int32) (iC : Nat → Int32) (tC : Nat → Nat → Int64) (sC : Nat → Nat → Int32) (p1 : Int32) {r : Int32} (hf : f_X4_wanting N iM sM iC tC sC p1 = some r) : CI l G yX4_wanting cX4_wanting 4 .int 2 [.ref (uM 0), .int p1] (gM G uM (uC 0) iM sM ++ gC G uC iC tC sC) r (gM G uM (uC 0) iM sM ++ gC G uC iC tC sC) := by
  refine CI.of (by decide) (Nat.le_of_ble_eq_true rfl) ?_
  intro p e s m args below meth c A X hA hP hD hS ls hl
  have hl : lv_has ls 4 [(0, .ref (uM 0)), (1, .int p1)] := hl
  generalize hQ : MQ below (QI G A r (gM G uM (uC 0) iM sM ++ gC G uC iC tC sC)) args s 0 0 A = QQ
  unfold f_X4_wanting at hf
  refine lv_iconst (v := 0) X.hx X.hb dX4_wanting_0 (by decide) ?_
  refine lv_istore_n (lv' := [(2, .int 0), (0, .ref (uM 0)), (1, .int p1)]) X.hx X.hb dX4_wanting_1 rfl hl (by decide) rfl (fun ls hl => ?_)
  refine lv_iconst (v := 0) X.hx X.hb dX4_wanting_2 (by decide) ?_
  refine lv_istore_n (lv' := [(3, .int 0), (2, .int 0), (0, .ref (uM 0)), (1, .int p1)]) X.hx X.hb dX4_wanting_3 rfl hl (by decide) rfl (fun ls hl => ?_)
  have hlo_1 : ∀ (k : Nat) (v2_2 : Int32) (v3_3 : Int32) (H : Heap) (locs : List Loc) (ls : Array Slot), f_X4_wanting_4 N iM sM iC tC sC p1 k v2_2 v3_3 = some r → va_P G.1 vwCl (gM G uM (uC 0) iM sM ++ gC G uC iC tC sC) H → va_D A (gM G uM (uC 0) iM sM ++ gC G uC iC tC sC) → va_S A s.heap H locs → lv_has ls 4 [(0, .ref (uM 0)), (1, .int p1), (2, .int v2_2), (3, .int v3_3)] → W p l e (RM 2) s m args below meth c H locs 0 0 QQ (F0 m 4 ls []) := by
    intro k
    induction k with
    | zero => intro v2_2 v3_3 H locs ls hf; exact absurd hf (by intro q; cases q)
    | succ k ih =>
      intro v2_2 v3_3 H locs ls hf hP hD hS hl
      unfold f_X4_wanting_4 at hf
      refine lv_iload_n X.hx X.hb dX4_wanting_4 rfl (lv_at hl 3 rfl) ?_
      refine lv_iconst (v := 5) X.hx X.hb dX4_wanting_5 (by decide) ?_
      refine lv_icmp_ge (tgt := 28) X.hx X.hb dX4_wanting_6 (by decide) (fun hc_4 => ?_) (fun hc_4 => ?_)
      · replace hf := if_t hf hc_4
        refine lv_iload_n X.hx X.hb dX4_wanting_28 rfl (lv_at hl 2 rfl) ?_
        cases hf
        subst hQ
        exact r_iret X hP hD hS dX4_wanting_29
      · replace hf := if_f hf hc_4
        refine lv_iload_n X.hx X.hb dX4_wanting_9 rfl (lv_at hl 2 rfl) ?_
        refine lv_aload_n X.hx X.hb dX4_wanting_10 rfl (lv_at hl 0 rfl) ?_
        refine gf_X4_24 X hP 0 rfl (v := .ref (uM 11)) rfl dX4_wanting_11 ?_
        refine lv_iload_n X.hx X.hb dX4_wanting_14 rfl (lv_at hl 1 rfl) ?_
        refine lv_iload_n X.hx X.hb dX4_wanting_15 rfl (lv_at hl 3 rfl) ?_
        obtain ⟨r_5, hc_6, hf⟩ := bd_i hf
        refine r_cn0 (As := [.int p1, .int v3_3]) (rest := [.ref (uM 11), .int v2_2]) X sm_X4_90 (c_X10_cellOf l G N p1 v3_3 hc_6) hP hD hS hA rfl hl.1 (lv_room (Nat.le_of_ble_eq_true rfl)) ⟨Nat.le_of_ble_eq_true rfl, Nat.le_of_ble_eq_true rfl⟩ ⟨Nat.zero_le _, Nat.zero_le _⟩ dX4_wanting_16 (fun H locs hP hD hS => ?_)
        obtain ⟨hi_7, hf⟩ := ck_i hf
        refine r_iald X hP 5 (f := (sM 10)) rfl hi_7 dX4_wanting_19 ?_
        refine lv_iadd X.hx X.hb dX4_wanting_20 ?_
        obtain ⟨n_8, en_8, hf⟩ := nv_i hf
        refine r_nm en_8 ?_
        refine lv_istore_n (lv' := [(2, .int n_8), (0, .ref (uM 0)), (1, .int p1), (3, .int v3_3)]) X.hx X.hb dX4_wanting_21 rfl hl (by decide) rfl (fun ls hl => ?_)
        refine lv_iinc (v := (v3_3 + 1)) (lv' := [(3, .int (v3_3 + 1)), (2, .int n_8), (0, .ref (uM 0)), (1, .int p1)]) X.hx X.hb dX4_wanting_22 hl (k := 3) rfl rfl (by decide) rfl (fun ls hl => ?_)
        refine lv_goto (tgt := 4) X.hx X.hb dX4_wanting_25 (by decide) ?_
        exact ih _ _ _ _ _ hf hP hD hS (lv_sub hl [2, 3, 1, 0] rfl)
  exact hlo_1 N _ _ _ _ _ hf hP hD hS (lv_sub hl [2, 3, 1, 0] rfl)

def f_X4_isSoldOut_7 (N : Nat) (iM : Nat → Int32) (sM : Nat → Nat → Int32) (iC : Nat → Int32) (tC : Nat → Nat → Int64) (sC : Nat → Nat → Int32) (v1 : Int32) (K_1 : ((Int32) × (Int32)) → Option (Int32)) : Nat → (Int32) → (Int32) → (Int32) → Option (Int32)
  | 0, _, _, _ => none
  | k + 1, v2, v3, v4 => (if (5 : Int32) ≤ v4 then K_1 (v2, v3) else jn (fun (z : (Int32)) => match z with | y_33 => bd (f_X10_cellOf N v1 v4) (fun r_34 => ck r_34 35 (nv (v3 + ((sM 9) (ix r_34))) (fun n_37 => f_X4_isSoldOut_7 N iM sM iC tC sC v1 K_1 k y_33 n_37 (v4 + 1))))) (fun K_30 => jn (fun (z : Unit) => match z with | () => K_30 1) (fun K_38 => (if v2 = 0 then bd (f_X10_cellOf N v1 v4) (fun r_42 => ck r_42 35 ((if ((sC 8) (ix r_42)) = (-1) then K_30 0 else K_38 ()))) else K_38 ()))))
def f_X4_isSoldOut (N : Nat) (iM : Nat → Int32) (sM : Nat → Nat → Int32) (iC : Nat → Int32) (tC : Nat → Nat → Int64) (sC : Nat → Nat → Int32) (p1 : Int32) : Option (Int32) :=
  jn (fun (z : (Int32) × (Int32)) => match z with | (x2_4, x3_5) => (if x2_4 = 0 then some 0 else (if x3_5 = 0 then some 1 else some 0))) (fun K_1 => f_X4_isSoldOut_7 N iM sM iC tC sC p1 K_1 N 0 0 0)
set_option maxHeartbeats 4000000 in
set_option maxRecDepth 100000 in
theorem c_X4_isSoldOut (l : Launch) (G : GT) (N : Nat) (uM uC : Nat → Nat) (iM : Nat → Int32) (sM : Nat → Nat → Int32) (iC : Nat → Int32) (tC : Nat → Nat → Int64) (sC : Nat → Nat → Int32) (p1 : Int32) {r : Int32} (hf : f_X4_isSoldOut N iM sM iC tC sC p1 = some r) : CI l G yX4_isSoldOut cX4_isSoldOut 5 .boolean 2 [.ref (uM 0), .int p1] (gM G uM (uC 0) iM sM ++ gC G uC iC tC sC) r (gM G uM (uC 0) iM sM ++ gC G uC iC tC sC) := by
  refine CI.of (by decide) (Nat.le_of_ble_eq_true rfl) ?_
  intro p e s m args below meth c A X hA hP hD hS ls hl
  have hl : lv_has ls 5 [(0, .ref (uM 0)), (1, .int p1)] := hl
  generalize hQ : MQ below (QI G A r (gM G uM (uC 0) iM sM ++ gC G uC iC tC sC)) args s 0 0 A = QQ
  unfold f_X4_isSoldOut at hf
  refine lv_iconst (v := 0) X.hx X.hb dX4_isSoldOut_0 (by decide) ?_
  refine lv_istore_n (lv' := [(2, .int 0), (0, .ref (uM 0)), (1, .int p1)]) X.hx X.hb dX4_isSoldOut_1 rfl hl (by decide) rfl (fun ls hl => ?_)
  refine lv_iconst (v := 0) X.hx X.hb dX4_isSoldOut_2 (by decide) ?_
  refine lv_istore_n (lv' := [(3, .int 0), (2, .int 0), (0, .ref (uM 0)), (1, .int p1)]) X.hx X.hb dX4_isSoldOut_3 rfl hl (by decide) rfl (fun ls hl => ?_)
  refine lv_iconst (v := 0) X.hx X.hb dX4_isSoldOut_4 (by decide) ?_
  refine lv_istore (lv' := [(4, .int 0), (3, .int 0), (2, .int 0), (0, .ref (uM 0)), (1, .int p1)]) X.hx X.hb dX4_isSoldOut_5 hl (by decide) rfl (fun ls hl => ?_)
  obtain ⟨K_1, eK_3, hf⟩ := jn_i hf
  have hj_2 : ∀ (x2_4 : Int32) (x3_5 : Int32) (H : Heap) (locs : List Loc) (ls : Array Slot), K_1 (x2_4, x3_5) = some r → va_P G.1 vwCl (gM G uM (uC 0) iM sM ++ gC G uC iC tC sC) H → va_D A (gM G uM (uC 0) iM sM ++ gC G uC iC tC sC) → va_S A s.heap H locs → lv_has ls 5 [(2, .int x2_4), (3, .int x3_5)] → W p l e (RM 2) s m args below meth c H locs 0 0 QQ (F0 m 61 ls []) := by
    intro x2_4 x3_5 H locs ls hf hP hD hS hl
    rw [eK_3] at hf
    try dsimp only at hf
    refine lv_iload_n X.hx X.hb dX4_isSoldOut_61 rfl (lv_at hl 0 rfl) ?_
    refine lv_if_eq (tgt := 73) X.hx X.hb dX4_isSoldOut_62 (by decide) (fun hc_6 => ?_) (fun hc_6 => ?_)
    · replace hf := if_t hf hc_6
      refine lv_iconst (v := 0) X.hx X.hb dX4_isSoldOut_73 (by decide) ?_
      cases hf
      subst hQ
      exact r_zret X hP hD hS (by decide) dX4_isSoldOut_74
    · replace hf := if_f hf hc_6
      refine lv_iload_n X.hx X.hb dX4_isSoldOut_65 rfl (lv_at hl 1 rfl) ?_
      refine lv_if_ne (tgt := 73) X.hx X.hb dX4_isSoldOut_66 (by decide) (fun hc_7 => ?_) (fun hc_7 => ?_)
      · replace hf := if_f hf hc_7
        refine lv_iconst (v := 0) X.hx X.hb dX4_isSoldOut_73 (by decide) ?_
        cases hf
        subst hQ
        exact r_zret X hP hD hS (by decide) dX4_isSoldOut_74
      · replace hf := if_t hf hc_7
        refine lv_iconst (v := 1) X.hx X.hb dX4_isSoldOut_69 (by decide) ?_
        refine lv_goto (tgt := 74) X.hx X.hb dX4_isSoldOut_70 (by decide) ?_
        cases hf
        subst hQ
        exact r_zret X hP hD hS (by decide) dX4_isSoldOut_74
  have hlo_8 : ∀ (k : Nat) (v2_9 : Int32) (v3_10 : Int32) (v4_11 : Int32) (H : Heap) (locs : List Loc) (ls : Array Slot), f_X4_isSoldOut_7 N iM sM iC tC sC p1 K_1 k v2_9 v3_10 v4_11 = some r → va_P G.1 vwCl (gM G uM (uC 0) iM sM ++ gC G uC iC tC sC) H → va_D A (gM G uM (uC 0) iM sM ++ gC G uC iC tC sC) → va_S A s.heap H locs → lv_has ls 5 [(0, .ref (uM 0)), (1, .int p1), (2, .int v2_9), (3, .int v3_10), (4, .int v4_11)] → W p l e (RM 2) s m args below meth c H locs 0 0 QQ (F0 m 7 ls []) := by
    intro k
    induction k with
    | zero => intro v2_9 v3_10 v4_11 H locs ls hf; exact absurd hf (by intro q; cases q)
    | succ k ih =>
      intro v2_9 v3_10 v4_11 H locs ls hf hP hD hS hl
      unfold f_X4_isSoldOut_7 at hf
      refine lv_iload X.hx X.hb dX4_isSoldOut_7 (lv_at hl 4 rfl) ?_
      refine lv_iconst (v := 5) X.hx X.hb dX4_isSoldOut_9 (by decide) ?_
      refine lv_icmp_ge (tgt := 61) X.hx X.hb dX4_isSoldOut_10 (by decide) (fun hc_12 => ?_) (fun hc_12 => ?_)
      · replace hf := if_t hf hc_12
        exact hj_2 _ _ _ _ _ hf hP hD hS (lv_sub hl [2, 3] rfl)
      · replace hf := if_f hf hc_12
        refine lv_iload_n X.hx X.hb dX4_isSoldOut_13 rfl (lv_at hl 2 rfl) ?_
        obtain ⟨K_13, eK_15, hf⟩ := jn_i hf
        have hj_14 : ∀ (y_16 : Int32) (H : Heap) (locs : List Loc) (ls : Array Slot), K_13 y_16 = some r → va_P G.1 vwCl (gM G uM (uC 0) iM sM ++ gC G uC iC tC sC) H → va_D A (gM G uM (uC 0) iM sM ++ gC G uC iC tC sC) → va_S A s.heap H locs → lv_has ls 5 [(0, .ref (uM 0)), (1, .int p1), (3, .int v3_10), (4, .int v4_11)] → W p l e (RM 2) s m args below meth c H locs 0 0 QQ (F0 m 40 ls [.int y_16]) := by
          intro y_16 H locs ls hf hP hD hS hl
          rw [eK_15] at hf
          try dsimp only at hf
          refine lv_istore_n (lv' := [(2, .int y_16), (0, .ref (uM 0)), (1, .int p1), (3, .int v3_10), (4, .int v4_11)]) X.hx X.hb dX4_isSoldOut_40 rfl hl (by decide) rfl (fun ls hl => ?_)
          refine lv_iload_n X.hx X.hb dX4_isSoldOut_41 rfl (lv_at hl 3 rfl) ?_
          refine lv_aload_n X.hx X.hb dX4_isSoldOut_42 rfl (lv_at hl 1 rfl) ?_
          refine gf_X4_21 X hP 0 rfl (v := .ref (uM 10)) rfl dX4_isSoldOut_43 ?_
          refine lv_iload_n X.hx X.hb dX4_isSoldOut_46 rfl (lv_at hl 2 rfl) ?_
          refine lv_iload X.hx X.hb dX4_isSoldOut_47 (lv_at hl 4 rfl) ?_
          obtain ⟨r_17, hc_18, hf⟩ := bd_i hf
          refine r_cn0 (As := [.int p1, .int v4_11]) (rest := [.ref (uM 10), .int v3_10]) X sm_X4_90 (c_X10_cellOf l G N p1 v4_11 hc_18) hP hD hS hA rfl hl.1 (lv_room (Nat.le_of_ble_eq_true rfl)) ⟨Nat.le_of_ble_eq_true rfl, Nat.le_of_ble_eq_true rfl⟩ ⟨Nat.zero_le _, Nat.zero_le _⟩ dX4_isSoldOut_49 (fun H locs hP hD hS => ?_)
          obtain ⟨hi_19, hf⟩ := ck_i hf
          refine r_iald X hP 4 (f := (sM 9)) rfl hi_19 dX4_isSoldOut_52 ?_
          refine lv_iadd X.hx X.hb dX4_isSoldOut_53 ?_
          obtain ⟨n_20, en_20, hf⟩ := nv_i hf
          refine r_nm en_20 ?_
          refine lv_istore_n (lv' := [(3, .int n_20), (2, .int y_16), (0, .ref (uM 0)), (1, .int p1), (4, .int v4_11)]) X.hx X.hb dX4_isSoldOut_54 rfl hl (by decide) rfl (fun ls hl => ?_)
          refine lv_iinc (v := (v4_11 + 1)) (lv' := [(4, .int (v4_11 + 1)), (3, .int n_20), (2, .int y_16), (0, .ref (uM 0)), (1, .int p1)]) X.hx X.hb dX4_isSoldOut_55 hl (k := 4) rfl rfl (by decide) rfl (fun ls hl => ?_)
          refine lv_goto (tgt := 7) X.hx X.hb dX4_isSoldOut_58 (by decide) ?_
          exact ih _ _ _ _ _ _ hf hP hD hS (lv_sub hl [3, 4, 2, 1, 0] rfl)
        obtain ⟨K_21, eK_23, hf⟩ := jn_i hf
        have hj_22 : ∀ (H : Heap) (locs : List Loc) (ls : Array Slot), K_21 () = some r → va_P G.1 vwCl (gM G uM (uC 0) iM sM ++ gC G uC iC tC sC) H → va_D A (gM G uM (uC 0) iM sM ++ gC G uC iC tC sC) → va_S A s.heap H locs → lv_has ls 5 [(0, .ref (uM 0)), (1, .int p1), (3, .int v3_10), (4, .int v4_11)] → W p l e (RM 2) s m args below meth c H locs 0 0 QQ (F0 m 35 ls []) := by
          intro  H locs ls hf hP hD hS hl
          rw [eK_23] at hf
          try dsimp only at hf
          refine lv_iconst (v := 1) X.hx X.hb dX4_isSoldOut_35 (by decide) ?_
          refine lv_goto (tgt := 40) X.hx X.hb dX4_isSoldOut_36 (by decide) ?_
          exact hj_14 _ _ _ _ hf hP hD hS (lv_sub hl [0, 1, 2, 3] rfl)
        refine lv_if_ne (tgt := 35) X.hx X.hb dX4_isSoldOut_14 (by decide) (fun hc_24 => ?_) (fun hc_24 => ?_)
        · replace hf := if_f hf hc_24
          exact hj_22 _ _ _ hf hP hD hS (lv_sub hl [0, 1, 3, 4] rfl)
        · replace hf := if_t hf hc_24
          refine lv_aload_n X.hx X.hb dX4_isSoldOut_17 rfl (lv_at hl 0 rfl) ?_
          refine gf_X4_30 X hP 0 rfl (v := .ref (uC 0)) rfl dX4_isSoldOut_18 ?_
          refine gf_X4_94 X hP 7 rfl (v := .ref (uC 9)) rfl dX4_isSoldOut_21 ?_
          refine lv_iload_n X.hx X.hb dX4_isSoldOut_24 rfl (lv_at hl 1 rfl) ?_
          refine lv_iload X.hx X.hb dX4_isSoldOut_25 (lv_at hl 4 rfl) ?_
          obtain ⟨r_25, hc_26, hf⟩ := bd_i hf
          refine r_cn0 (As := [.int p1, .int v4_11]) (rest := [.ref (uC 9)]) X sm_X4_90 (c_X10_cellOf l G N p1 v4_11 hc_26) hP hD hS hA rfl hl.1 (lv_room (Nat.le_of_ble_eq_true rfl)) ⟨Nat.le_of_ble_eq_true rfl, Nat.le_of_ble_eq_true rfl⟩ ⟨Nat.zero_le _, Nat.zero_le _⟩ dX4_isSoldOut_27 (fun H locs hP hD hS => ?_)
          obtain ⟨hi_27, hf⟩ := ck_i hf
          refine r_iald X hP 14 (f := (sC 8)) rfl hi_27 dX4_isSoldOut_30 ?_
          refine lv_iconst (v := (-1)) X.hx X.hb dX4_isSoldOut_31 (by decide) ?_
          refine lv_icmp_eq (tgt := 39) X.hx X.hb dX4_isSoldOut_32 (by decide) (fun hc_28 => ?_) (fun hc_28 => ?_)
          · replace hf := if_t hf hc_28
            refine lv_iconst (v := 0) X.hx X.hb dX4_isSoldOut_39 (by decide) ?_
            exact hj_14 _ _ _ _ hf hP hD hS (lv_sub hl [0, 1, 3, 4] rfl)
          · replace hf := if_f hf hc_28
            exact hj_22 _ _ _ hf hP hD hS (lv_sub hl [0, 1, 3, 4] rfl)
  exact hlo_8 N _ _ _ _ _ _ hf hP hD hS (lv_sub hl [3, 4, 2, 1, 0] rfl)

def f_X4_fed_4 (N : Nat) (iM : Nat → Int32) (sM : Nat → Nat → Int32) (iC : Nat → Int32) (tC : Nat → Nat → Int64) (sC : Nat → Nat → Int32) : Nat → (Int32) → (Int32) → Option (Int32)
  | 0, _, _ => none
  | k + 1, v1, v2 => (if (iC 0) ≤ v2 then some v1 else bd (f_X4_wanting N iM sM iC tC sC v2) (fun r_14 => jn (fun (z : (Int32)) => match z with | x1_19 => f_X4_fed_4 N iM sM iC tC sC k x1_19 (v2 + 1)) (fun K_16 => (if r_14 = 0 then nv (v1 ||| ((1 : Int32) <<< (v2 &&& 31))) (fun n_21 => K_16 n_21) else K_16 v1))))
def f_X4_fed (N : Nat) (iM : Nat → Int32) (sM : Nat → Nat → Int32) (iC : Nat → Int32) (tC : Nat → Nat → Int64) (sC : Nat → Nat → Int32) : Option (Int32) :=
  f_X4_fed_4 N iM sM iC tC sC N 0 0
set_option maxHeartbeats 4000000 in
set_option maxRecDepth 100000 in
theorem c_X4_fed (l : Launch) (G : GT) (N : Nat) (uM uC : Nat → Nat) (iM : Nat → Int32) (sM : Nat → Nat → Int32) (iC : Nat → Int32) (tC : Nat → Nat → Int64) (sC : Nat → Nat → Int32) {r : Int32} (hf : f_X4_fed N iM sM iC tC sC = some r) : CI l G yX4_fed cX4_fed 3 .int 3 [.ref (uM 0)] (gM G uM (uC 0) iM sM ++ gC G uC iC tC sC) r (gM G uM (uC 0) iM sM ++ gC G uC iC tC sC) := by
  refine CI.of (by decide) (Nat.le_of_ble_eq_true rfl) ?_
  intro p e s m args below meth c A X hA hP hD hS ls hl
  have hl : lv_has ls 3 [(0, .ref (uM 0))] := hl
  generalize hQ : MQ below (QI G A r (gM G uM (uC 0) iM sM ++ gC G uC iC tC sC)) args s 0 0 A = QQ
  unfold f_X4_fed at hf
  refine lv_iconst (v := 0) X.hx X.hb dX4_fed_0 (by decide) ?_
  refine lv_istore_n (lv' := [(1, .int 0), (0, .ref (uM 0))]) X.hx X.hb dX4_fed_1 rfl hl (by decide) rfl (fun ls hl => ?_)
  refine lv_iconst (v := 0) X.hx X.hb dX4_fed_2 (by decide) ?_
  refine lv_istore_n (lv' := [(2, .int 0), (1, .int 0), (0, .ref (uM 0))]) X.hx X.hb dX4_fed_3 rfl hl (by decide) rfl (fun ls hl => ?_)
  have hlo_1 : ∀ (k : Nat) (v1_2 : Int32) (v2_3 : Int32) (H : Heap) (locs : List Loc) (ls : Array Slot), f_X4_fed_4 N iM sM iC tC sC k v1_2 v2_3 = some r → va_P G.1 vwCl (gM G uM (uC 0) iM sM ++ gC G uC iC tC sC) H → va_D A (gM G uM (uC 0) iM sM ++ gC G uC iC tC sC) → va_S A s.heap H locs → lv_has ls 3 [(0, .ref (uM 0)), (1, .int v1_2), (2, .int v2_3)] → W p l e (RM 3) s m args below meth c H locs 0 0 QQ (F0 m 4 ls []) := by
    intro k
    induction k with
    | zero => intro v1_2 v2_3 H locs ls hf; exact absurd hf (by intro q; cases q)
    | succ k ih =>
      intro v1_2 v2_3 H locs ls hf hP hD hS hl
      unfold f_X4_fed_4 at hf
      refine lv_iload_n X.hx X.hb dX4_fed_4 rfl (lv_at hl 2 rfl) ?_
      refine lv_aload_n X.hx X.hb dX4_fed_5 rfl (lv_at hl 0 rfl) ?_
      refine gf_X4_30 X hP 0 rfl (v := .ref (uC 0)) rfl dX4_fed_6 ?_
      refine gf_X4_97 X hP 7 rfl (v := .int (iC 0)) rfl dX4_fed_9 ?_
      refine lv_icmp_ge (tgt := 35) X.hx X.hb dX4_fed_12 (by decide) (fun hc_4 => ?_) (fun hc_4 => ?_)
      · replace hf := if_t hf hc_4
        refine lv_iload_n X.hx X.hb dX4_fed_35 rfl (lv_at hl 1 rfl) ?_
        cases hf
        subst hQ
        exact r_iret X hP hD hS dX4_fed_36
      · replace hf := if_f hf hc_4
        refine lv_aload_n X.hx X.hb dX4_fed_15 rfl (lv_at hl 0 rfl) ?_
        refine lv_iload_n X.hx X.hb dX4_fed_16 rfl (lv_at hl 2 rfl) ?_
        obtain ⟨r_5, hc_6, hf⟩ := bd_i hf
        refine r_wvi (As := [.int v2_3]) (rest := []) X sm_X4_100 (c_X4_wanting l G N uM uC iM sM iC tC sC v2_3 hc_6) hP hD hS hA 0 rfl rfl rfl hl.1 (lv_room (Nat.le_of_ble_eq_true rfl)) ⟨Nat.le_of_ble_eq_true rfl, Nat.le_of_ble_eq_true rfl⟩ ⟨Nat.zero_le _, Nat.zero_le _⟩ dX4_fed_17 (fun H locs hP hD hS => ?_)
        obtain ⟨K_7, eK_9, hf⟩ := jn_i hf
        have hj_8 : ∀ (x1_10 : Int32) (H : Heap) (locs : List Loc) (ls : Array Slot), K_7 x1_10 = some r → va_P G.1 vwCl (gM G uM (uC 0) iM sM ++ gC G uC iC tC sC) H → va_D A (gM G uM (uC 0) iM sM ++ gC G uC iC tC sC) → va_S A s.heap H locs → lv_has ls 3 [(0, .ref (uM 0)), (1, .int x1_10), (2, .int v2_3)] → W p l e (RM 3) s m args below meth c H locs 0 0 QQ (F0 m 29 ls []) := by
          intro x1_10 H locs ls hf hP hD hS hl
          rw [eK_9] at hf
          try dsimp only at hf
          refine lv_iinc (v := (v2_3 + 1)) (lv' := [(2, .int (v2_3 + 1)), (0, .ref (uM 0)), (1, .int x1_10)]) X.hx X.hb dX4_fed_29 hl (k := 2) rfl rfl (by decide) rfl (fun ls hl => ?_)
          refine lv_goto (tgt := 4) X.hx X.hb dX4_fed_32 (by decide) ?_
          exact ih _ _ _ _ _ hf hP hD hS (lv_sub hl [1, 2, 0] rfl)
        refine lv_if_ne (tgt := 29) X.hx X.hb dX4_fed_20 (by decide) (fun hc_11 => ?_) (fun hc_11 => ?_)
        · replace hf := if_f hf hc_11
          exact hj_8 _ _ _ _ hf hP hD hS (lv_sub hl [0, 1, 2] rfl)
        · replace hf := if_t hf hc_11
          refine lv_iload_n X.hx X.hb dX4_fed_23 rfl (lv_at hl 1 rfl) ?_
          refine lv_iconst (v := 1) X.hx X.hb dX4_fed_24 (by decide) ?_
          refine lv_iload_n X.hx X.hb dX4_fed_25 rfl (lv_at hl 2 rfl) ?_
          refine lv_ishl X.hx X.hb dX4_fed_26 ?_
          refine lv_ior X.hx X.hb dX4_fed_27 ?_
          obtain ⟨n_12, en_12, hf⟩ := nv_i hf
          refine r_nm en_12 ?_
          refine lv_istore_n (lv' := [(1, .int n_12), (0, .ref (uM 0)), (2, .int v2_3)]) X.hx X.hb dX4_fed_28 rfl hl (by decide) rfl (fun ls hl => ?_)
          exact hj_8 _ _ _ _ hf hP hD hS (lv_sub hl [1, 0, 2] rfl)
  exact hlo_1 N _ _ _ _ _ hf hP hD hS (lv_sub hl [2, 1, 0] rfl)

