def f_X8_isAtEnd (N : Nat) (sT : Nat → Nat → Int32) (iT : Nat → Int32) (jT : Nat → Int64) : Option (Int32) :=
  (if (iT 5) = 0 then some 1 else some 0)
set_option maxHeartbeats 4000000 in
set_option maxRecDepth 100000 in
theorem c_X8_isAtEnd (l : Launch) (G : GT) (N : Nat) (uT : Nat → Nat) (sT : Nat → Nat → Int32) (iT : Nat → Int32) (jT : Nat → Int64) {r : Int32} (hf : f_X8_isAtEnd N sT iT jT = some r) : CI l G yX8_isAtEnd cX8_isAtEnd 1 .boolean 1 [.ref (uT 0)] (gT G uT sT iT jT) r (gT G uT sT iT jT) := by
  refine CI.of (by decide) (Nat.le_of_ble_eq_true rfl) ?_
  intro p e s m args below meth c A X hA hP hD hS ls hl
  have hl : lv_has ls 1 [(0, .ref (uT 0))] := hl
  generalize hQ : MQ below (QI G A r (gT G uT sT iT jT)) args s 0 0 A = QQ
  unfold f_X8_isAtEnd at hf
  refine lv_aload_n X.hx X.hb dX8_isAtEnd_0 rfl (lv_at hl 0 rfl) ?_
  refine gf_X8_72 X hP 0 rfl (v := .int (iT 5)) rfl dX8_isAtEnd_1 ?_
  refine lv_if_ne (tgt := 11) X.hx X.hb dX8_isAtEnd_4 (by decide) (fun hc_1 => ?_) (fun hc_1 => ?_)
  · replace hf := if_f hf hc_1
    refine lv_iconst (v := 0) X.hx X.hb dX8_isAtEnd_11 (by decide) ?_
    cases hf
    subst hQ
    exact r_zret X hP hD hS (by decide) dX8_isAtEnd_12
  · replace hf := if_t hf hc_1
    refine lv_iconst (v := 1) X.hx X.hb dX8_isAtEnd_7 (by decide) ?_
    refine lv_goto (tgt := 12) X.hx X.hb dX8_isAtEnd_8 (by decide) ?_
    cases hf
    subst hQ
    exact r_zret X hP hD hS (by decide) dX8_isAtEnd_12

def f_X8_isName (N : Nat) (sT : Nat → Nat → Int32) (iT : Nat → Int32) (jT : Nat → Int64) : Option (Int32) :=
  (if (iT 5) = 1 then (if (iT 7) = (-1) then some 1 else some 0) else some 0)
set_option maxHeartbeats 4000000 in
set_option maxRecDepth 100000 in
theorem c_X8_isName (l : Launch) (G : GT) (N : Nat) (uT : Nat → Nat) (sT : Nat → Nat → Int32) (iT : Nat → Int32) (jT : Nat → Int64) {r : Int32} (hf : f_X8_isName N sT iT jT = some r) : CI l G yX8_isName cX8_isName 1 .boolean 1 [.ref (uT 0)] (gT G uT sT iT jT) r (gT G uT sT iT jT) := by
  refine CI.of (by decide) (Nat.le_of_ble_eq_true rfl) ?_
  intro p e s m args below meth c A X hA hP hD hS ls hl
  have hl : lv_has ls 1 [(0, .ref (uT 0))] := hl
  generalize hQ : MQ below (QI G A r (gT G uT sT iT jT)) args s 0 0 A = QQ
  unfold f_X8_isName at hf
  refine lv_aload_n X.hx X.hb dX8_isName_0 rfl (lv_at hl 0 rfl) ?_
  refine gf_X8_72 X hP 0 rfl (v := .int (iT 5)) rfl dX8_isName_1 ?_
  refine lv_iconst (v := 1) X.hx X.hb dX8_isName_4 (by decide) ?_
  refine lv_icmp_ne (tgt := 20) X.hx X.hb dX8_isName_5 (by decide) (fun hc_1 => ?_) (fun hc_1 => ?_)
  · replace hf := if_f hf hc_1
    refine lv_iconst (v := 0) X.hx X.hb dX8_isName_20 (by decide) ?_
    cases hf
    subst hQ
    exact r_zret X hP hD hS (by decide) dX8_isName_21
  · replace hf := if_t hf hc_1
    refine lv_aload_n X.hx X.hb dX8_isName_8 rfl (lv_at hl 0 rfl) ?_
    refine gf_X8_66 X hP 0 rfl (v := .int (iT 7)) rfl dX8_isName_9 ?_
    refine lv_iconst (v := (-1)) X.hx X.hb dX8_isName_12 (by decide) ?_
    refine lv_icmp_ne (tgt := 20) X.hx X.hb dX8_isName_13 (by decide) (fun hc_2 => ?_) (fun hc_2 => ?_)
    · replace hf := if_f hf hc_2
      refine lv_iconst (v := 0) X.hx X.hb dX8_isName_20 (by decide) ?_
      cases hf
      subst hQ
      exact r_zret X hP hD hS (by decide) dX8_isName_21
    · replace hf := if_t hf hc_2
      refine lv_iconst (v := 1) X.hx X.hb dX8_isName_16 (by decide) ?_
      refine lv_goto (tgt := 21) X.hx X.hb dX8_isName_17 (by decide) ?_
      cases hf
      subst hQ
      exact r_zret X hP hD hS (by decide) dX8_isName_21

def f_X8_passSign (N : Nat) (sT : Nat → Nat → Int32) (iT : Nat → Int32) (jT : Nat → Int64) (p1 : Int32) : Option (Int32 × (Nat → Int32) × (Nat → Int64)) :=
  (if (iT 8) = p1 then bd (f_X8_next N sT iT jT) (fun (iT_2, jT_3) => some (1, iT_2, jT_3)) else bd (f_X8_refuse N sT iT jT 1) (fun (r_5, iT_6) => zb r_5 (some (r_5, iT_6, jT))))
set_option maxHeartbeats 4000000 in
set_option maxRecDepth 100000 in
theorem c_X8_passSign (l : Launch) (G : GT) (N : Nat) (uT : Nat → Nat) (sT : Nat → Nat → Int32) (iT : Nat → Int32) (jT : Nat → Int64) (p1 : Int32) {r : Int32} {iT' : Nat → Int32} {jT' : Nat → Int64} (hf : f_X8_passSign N sT iT jT p1 = some (r, iT', jT')) : CI l G yX8_passSign cX8_passSign 2 .boolean 3 [.ref (uT 0), .int p1] (gT G uT sT iT jT) r (gT G uT sT iT' jT') := by
  refine CI.of (by decide) (Nat.le_of_ble_eq_true rfl) ?_
  intro p e s m args below meth c A X hA hP hD hS ls hl
  have hl : lv_has ls 2 [(0, .ref (uT 0)), (1, .int p1)] := hl
  generalize hQ : MQ below (QI G A r (gT G uT sT iT' jT')) args s 0 0 A = QQ
  unfold f_X8_passSign at hf
  refine lv_aload_n X.hx X.hb dX8_passSign_0 rfl (lv_at hl 0 rfl) ?_
  refine gf_X8_69 X hP 0 rfl (v := .int (iT 8)) rfl dX8_passSign_1 ?_
  refine lv_iload_n X.hx X.hb dX8_passSign_4 rfl (lv_at hl 1 rfl) ?_
  refine lv_icmp_eq (tgt := 14) X.hx X.hb dX8_passSign_5 (by decide) (fun hc_1 => ?_) (fun hc_1 => ?_)
  · replace hf := if_t hf hc_1
    refine lv_aload_n X.hx X.hb dX8_passSign_14 rfl (lv_at hl 0 rfl) ?_
    obtain ⟨⟨iT_2, jT_3⟩, hc_4, hf⟩ := bd_i hf
    refine r_wvv (As := []) (rest := []) X sm_X8_60 (c_X8_next l G N uT sT iT jT hc_4) hP hD hS hA 0 rfl rfl rfl hl.1 (lv_room (Nat.le_of_ble_eq_true rfl)) ⟨Nat.le_of_ble_eq_true rfl, Nat.le_of_ble_eq_true rfl⟩ ⟨Nat.zero_le _, Nat.zero_le _⟩ dX8_passSign_15 (fun H locs hP hD hS => ?_)
    refine lv_iconst (v := 1) X.hx X.hb dX8_passSign_18 (by decide) ?_
    cases hf
    subst hQ
    exact r_zret X hP hD hS (by decide) dX8_passSign_19
  · replace hf := if_f hf hc_1
    refine lv_aload_n X.hx X.hb dX8_passSign_8 rfl (lv_at hl 0 rfl) ?_
    refine lv_iconst (v := 1) X.hx X.hb dX8_passSign_9 (by decide) ?_
    obtain ⟨⟨r_5, iT_6⟩, hc_7, hf⟩ := bd_i hf
    refine r_wvi (As := [.int 1]) (rest := []) X sm_X8_93 (c_X8_refuse l G N uT sT iT jT 1 hc_7) hP hD hS hA 0 rfl rfl rfl hl.1 (lv_room (Nat.le_of_ble_eq_true rfl)) ⟨Nat.le_of_ble_eq_true rfl, Nat.le_of_ble_eq_true rfl⟩ ⟨Nat.zero_le _, Nat.zero_le _⟩ dX8_passSign_10 (fun H locs hP hD hS => ?_)
    obtain ⟨hb_8, hf⟩ := zb_i hf
    cases hf
    subst hQ
    exact r_zret X hP hD hS hb_8 dX8_passSign_13

def f_X8_passEnd (N : Nat) (sT : Nat → Nat → Int32) (iT : Nat → Int32) (jT : Nat → Int64) : Option (Int32 × (Nat → Int32)) :=
  jn (fun (z : Unit) => match z with | () => bd (f_X8_refuse N sT iT jT 1) (fun (r_4, iT_5) => (if r_4 = 0 then some (0, iT_5) else some (1, iT_5)))) (fun K_1 => (if (iT 5) = 0 then (if (iT 3) = 0 then some (1, iT) else K_1 ()) else K_1 ()))
set_option maxHeartbeats 4000000 in
set_option maxRecDepth 100000 in
theorem c_X8_passEnd (l : Launch) (G : GT) (N : Nat) (uT : Nat → Nat) (sT : Nat → Nat → Int32) (iT : Nat → Int32) (jT : Nat → Int64) {r : Int32} {iT' : Nat → Int32} (hf : f_X8_passEnd N sT iT jT = some (r, iT')) : CI l G yX8_passEnd cX8_passEnd 1 .boolean 2 [.ref (uT 0)] (gT G uT sT iT jT) r (gT G uT sT iT' jT) := by
  refine CI.of (by decide) (Nat.le_of_ble_eq_true rfl) ?_
  intro p e s m args below meth c A X hA hP hD hS ls hl
  have hl : lv_has ls 1 [(0, .ref (uT 0))] := hl
  generalize hQ : MQ below (QI G A r (gT G uT sT iT' jT)) args s 0 0 A = QQ
  unfold f_X8_passEnd at hf
  refine lv_aload_n X.hx X.hb dX8_passEnd_0 rfl (lv_at hl 0 rfl) ?_
  refine gf_X8_72 X hP 0 rfl (v := .int (iT 5)) rfl dX8_passEnd_1 ?_
  obtain ⟨K_1, eK_3, hf⟩ := jn_i hf
  have hj_2 : ∀ (H : Heap) (locs : List Loc) (ls : Array Slot), K_1 () = some (r, iT') → va_P G.1 vwCl (gT G uT sT iT jT) H → va_D A (gT G uT sT iT jT) → va_S A s.heap H locs → lv_has ls 1 [(0, .ref (uT 0))] → W p l e (RM 2) s m args below meth c H locs 0 0 QQ (F0 m 14 ls []) := by
    intro  H locs ls hf hP hD hS hl
    rw [eK_3] at hf
    try dsimp only at hf
    refine lv_aload_n X.hx X.hb dX8_passEnd_14 rfl (lv_at hl 0 rfl) ?_
    refine lv_iconst (v := 1) X.hx X.hb dX8_passEnd_15 (by decide) ?_
    obtain ⟨⟨r_4, iT_5⟩, hc_6, hf⟩ := bd_i hf
    refine r_wvi (As := [.int 1]) (rest := []) X sm_X8_93 (c_X8_refuse l G N uT sT iT jT 1 hc_6) hP hD hS hA 0 rfl rfl rfl hl.1 (lv_room (Nat.le_of_ble_eq_true rfl)) ⟨Nat.le_of_ble_eq_true rfl, Nat.le_of_ble_eq_true rfl⟩ ⟨Nat.zero_le _, Nat.zero_le _⟩ dX8_passEnd_16 (fun H locs hP hD hS => ?_)
    refine lv_if_eq (tgt := 26) X.hx X.hb dX8_passEnd_19 (by decide) (fun hc_7 => ?_) (fun hc_7 => ?_)
    · replace hf := if_t hf hc_7
      refine lv_iconst (v := 0) X.hx X.hb dX8_passEnd_26 (by decide) ?_
      cases hf
      subst hQ
      exact r_zret X hP hD hS (by decide) dX8_passEnd_27
    · replace hf := if_f hf hc_7
      refine lv_iconst (v := 1) X.hx X.hb dX8_passEnd_22 (by decide) ?_
      refine lv_goto (tgt := 27) X.hx X.hb dX8_passEnd_23 (by decide) ?_
      cases hf
      subst hQ
      exact r_zret X hP hD hS (by decide) dX8_passEnd_27
  refine lv_if_ne (tgt := 14) X.hx X.hb dX8_passEnd_4 (by decide) (fun hc_8 => ?_) (fun hc_8 => ?_)
  · replace hf := if_f hf hc_8
    exact hj_2 _ _ _ hf hP hD hS (lv_sub hl [0] rfl)
  · replace hf := if_t hf hc_8
    refine lv_aload_n X.hx X.hb dX8_passEnd_7 rfl (lv_at hl 0 rfl) ?_
    refine gf_X8_47 X hP 0 rfl (v := .int (iT 3)) rfl dX8_passEnd_8 ?_
    refine lv_if_eq (tgt := 22) X.hx X.hb dX8_passEnd_11 (by decide) (fun hc_9 => ?_) (fun hc_9 => ?_)
    · replace hf := if_t hf hc_9
      refine lv_iconst (v := 1) X.hx X.hb dX8_passEnd_22 (by decide) ?_
      refine lv_goto (tgt := 27) X.hx X.hb dX8_passEnd_23 (by decide) ?_
      cases hf
      subst hQ
      exact r_zret X hP hD hS (by decide) dX8_passEnd_27
    · replace hf := if_f hf hc_9
      exact hj_2 _ _ _ hf hP hD hS (lv_sub hl [0] rfl)

def f_X8_passNumber (N : Nat) (sT : Nat → Nat → Int32) (iT : Nat → Int32) (jT : Nat → Int64) (p1 : Int32) (p2 : Int32) : Option (Int32 × (Nat → Int32) × (Nat → Int64)) :=
  (if (iT 5) = 2 then jn (fun (z : Unit) => match z with | () => bd (f_X8_refuse N sT iT jT 2) (fun (r_5, iT_6) => some ((-1), iT_6, jT))) (fun K_2 => (if (iT 9) < p1 then K_2 () else (if (iT 9) ≤ p2 then bd (f_X8_next N sT iT jT) (fun (iT_10, jT_11) => some ((iT 9), iT_10, jT_11)) else K_2 ()))) else bd (f_X8_refuse N sT iT jT 1) (fun (r_13, iT_14) => some ((-1), iT_14, jT)))
set_option maxHeartbeats 4000000 in
set_option maxRecDepth 100000 in
theorem c_X8_passNumber (l : Launch) (G : GT) (N : Nat) (uT : Nat → Nat) (sT : Nat → Nat → Int32) (iT : Nat → Int32) (jT : Nat → Int64) (p1 : Int32) (p2 : Int32) {r : Int32} {iT' : Nat → Int32} {jT' : Nat → Int64} (hf : f_X8_passNumber N sT iT jT p1 p2 = some (r, iT', jT')) : CI l G yX8_passNumber cX8_passNumber 4 .int 3 [.ref (uT 0), .int p1, .int p2] (gT G uT sT iT jT) r (gT G uT sT iT' jT') := by
  refine CI.of (by decide) (Nat.le_of_ble_eq_true rfl) ?_
  intro p e s m args below meth c A X hA hP hD hS ls hl
  have hl : lv_has ls 4 [(0, .ref (uT 0)), (1, .int p1), (2, .int p2)] := hl
  generalize hQ : MQ below (QI G A r (gT G uT sT iT' jT')) args s 0 0 A = QQ
  unfold f_X8_passNumber at hf
  refine lv_aload_n X.hx X.hb dX8_passNumber_0 rfl (lv_at hl 0 rfl) ?_
  refine gf_X8_72 X hP 0 rfl (v := .int (iT 5)) rfl dX8_passNumber_1 ?_
  refine lv_iconst (v := 2) X.hx X.hb dX8_passNumber_4 (by decide) ?_
  refine lv_icmp_eq (tgt := 16) X.hx X.hb dX8_passNumber_5 (by decide) (fun hc_1 => ?_) (fun hc_1 => ?_)
  · replace hf := if_t hf hc_1
    refine lv_aload_n X.hx X.hb dX8_passNumber_16 rfl (lv_at hl 0 rfl) ?_
    refine gf_X8_90 X hP 0 rfl (v := .int (iT 9)) rfl dX8_passNumber_17 ?_
    refine lv_iload_n X.hx X.hb dX8_passNumber_20 rfl (lv_at hl 1 rfl) ?_
    obtain ⟨K_2, eK_4, hf⟩ := jn_i hf
    have hj_3 : ∀ (H : Heap) (locs : List Loc) (ls : Array Slot), K_2 () = some (r, iT', jT') → va_P G.1 vwCl (gT G uT sT iT jT) H → va_D A (gT G uT sT iT jT) → va_S A s.heap H locs → lv_has ls 4 [(0, .ref (uT 0))] → W p l e (RM 3) s m args below meth c H locs 0 0 QQ (F0 m 32 ls []) := by
      intro  H locs ls hf hP hD hS hl
      rw [eK_4] at hf
      try dsimp only at hf
      refine lv_aload_n X.hx X.hb dX8_passNumber_32 rfl (lv_at hl 0 rfl) ?_
      refine lv_iconst (v := 2) X.hx X.hb dX8_passNumber_33 (by decide) ?_
      obtain ⟨⟨r_5, iT_6⟩, hc_7, hf⟩ := bd_i hf
      refine r_wvi (As := [.int 2]) (rest := []) X sm_X8_93 (c_X8_refuse l G N uT sT iT jT 2 hc_7) hP hD hS hA 0 rfl rfl rfl hl.1 (lv_room (Nat.le_of_ble_eq_true rfl)) ⟨Nat.le_of_ble_eq_true rfl, Nat.le_of_ble_eq_true rfl⟩ ⟨Nat.zero_le _, Nat.zero_le _⟩ dX8_passNumber_34 (fun H locs hP hD hS => ?_)
      refine lv_pop X.hx X.hb dX8_passNumber_37 rfl ?_
      refine lv_iconst (v := (-1)) X.hx X.hb dX8_passNumber_38 (by decide) ?_
      cases hf
      subst hQ
      exact r_iret X hP hD hS dX8_passNumber_39
    refine lv_icmp_lt (tgt := 32) X.hx X.hb dX8_passNumber_21 (by decide) (fun hc_8 => ?_) (fun hc_8 => ?_)
    · replace hf := if_t hf hc_8
      exact hj_3 _ _ _ hf hP hD hS (lv_sub hl [0] rfl)
    · replace hf := if_f hf hc_8
      refine lv_aload_n X.hx X.hb dX8_passNumber_24 rfl (lv_at hl 0 rfl) ?_
      refine gf_X8_90 X hP 0 rfl (v := .int (iT 9)) rfl dX8_passNumber_25 ?_
      refine lv_iload_n X.hx X.hb dX8_passNumber_28 rfl (lv_at hl 2 rfl) ?_
      refine lv_icmp_le (tgt := 40) X.hx X.hb dX8_passNumber_29 (by decide) (fun hc_9 => ?_) (fun hc_9 => ?_)
      · replace hf := if_t hf hc_9
        refine lv_aload_n X.hx X.hb dX8_passNumber_40 rfl (lv_at hl 0 rfl) ?_
        refine gf_X8_90 X hP 0 rfl (v := .int (iT 9)) rfl dX8_passNumber_41 ?_
        refine lv_istore_n (lv' := [(3, .int (iT 9)), (0, .ref (uT 0)), (1, .int p1), (2, .int p2)]) X.hx X.hb dX8_passNumber_44 rfl hl (by decide) rfl (fun ls hl => ?_)
        refine lv_aload_n X.hx X.hb dX8_passNumber_45 rfl (lv_at hl 1 rfl) ?_
        obtain ⟨⟨iT_10, jT_11⟩, hc_12, hf⟩ := bd_i hf
        refine r_wvv (As := []) (rest := []) X sm_X8_60 (c_X8_next l G N uT sT iT jT hc_12) hP hD hS hA 0 rfl rfl rfl hl.1 (lv_room (Nat.le_of_ble_eq_true rfl)) ⟨Nat.le_of_ble_eq_true rfl, Nat.le_of_ble_eq_true rfl⟩ ⟨Nat.zero_le _, Nat.zero_le _⟩ dX8_passNumber_46 (fun H locs hP hD hS => ?_)
        refine lv_iload_n X.hx X.hb dX8_passNumber_49 rfl (lv_at hl 0 rfl) ?_
        cases hf
        subst hQ
        exact r_iret X hP hD hS dX8_passNumber_50
      · replace hf := if_f hf hc_9
        exact hj_3 _ _ _ hf hP hD hS (lv_sub hl [0] rfl)
  · replace hf := if_f hf hc_1
    refine lv_aload_n X.hx X.hb dX8_passNumber_8 rfl (lv_at hl 0 rfl) ?_
    refine lv_iconst (v := 1) X.hx X.hb dX8_passNumber_9 (by decide) ?_
    obtain ⟨⟨r_13, iT_14⟩, hc_15, hf⟩ := bd_i hf
    refine r_wvi (As := [.int 1]) (rest := []) X sm_X8_93 (c_X8_refuse l G N uT sT iT jT 1 hc_15) hP hD hS hA 0 rfl rfl rfl hl.1 (lv_room (Nat.le_of_ble_eq_true rfl)) ⟨Nat.le_of_ble_eq_true rfl, Nat.le_of_ble_eq_true rfl⟩ ⟨Nat.zero_le _, Nat.zero_le _⟩ dX8_passNumber_10 (fun H locs hP hD hS => ?_)
    refine lv_pop X.hx X.hb dX8_passNumber_13 rfl ?_
    refine lv_iconst (v := (-1)) X.hx X.hb dX8_passNumber_14 (by decide) ?_
    cases hf
    subst hQ
    exact r_iret X hP hD hS dX8_passNumber_15

def f_X8_personHere (N : Nat) (sT : Nat → Nat → Int32) (iT : Nat → Int32) (jT : Nat → Int64) (iC : Nat → Int32) (tC : Nat → Nat → Int64) (sC : Nat → Nat → Int32) : Option (Int32 × (Nat → Int32)) :=
  bd (f_X8_isName N sT iT jT) (fun r_1 => jn (fun (z : (Int32)) => match z with | y_6 => jn (fun (z : Unit) => match z with | () => bd (f_X8_isName N sT iT jT) (fun r_10 => jn (fun (z : (Int32)) => match z with | y_15 => bd (f_X8_refuse N sT iT jT y_15) (fun (r_16, iT_17) => some ((-1), iT_17))) (fun K_12 => (if r_10 = 0 then K_12 1 else K_12 3)))) (fun K_7 => (if y_6 < 0 then K_7 () else (if y_6 < 7 then some (y_6, iT) else K_7 ())))) (fun K_3 => (if r_1 = 0 then K_3 (-1) else bd (f_X1_slotOf N iC tC sC (jT 10)) (fun r_23 => K_3 r_23))))
set_option maxHeartbeats 4000000 in
set_option maxRecDepth 100000 in
theorem c_X8_personHere (l : Launch) (G : GT) (N : Nat) (uT uC : Nat → Nat) (sT : Nat → Nat → Int32) (iT : Nat → Int32) (jT : Nat → Int64) (iC : Nat → Int32) (tC : Nat → Nat → Int64) (sC : Nat → Nat → Int32) {r : Int32} {iT' : Nat → Int32} (hf : f_X8_personHere N sT iT jT iC tC sC = some (r, iT')) : CI l G yX8_personHere cX8_personHere 3 .int 2 [.ref (uT 0), .ref (uC 0)] (gT G uT sT iT jT ++ gC G uC iC tC sC) r (gT G uT sT iT' jT ++ gC G uC iC tC sC) := by
  refine CI.of (by decide) (Nat.le_of_ble_eq_true rfl) ?_
  intro p e s m args below meth c A X hA hP hD hS ls hl
  have hl : lv_has ls 3 [(0, .ref (uT 0)), (1, .ref (uC 0))] := hl
  generalize hQ : MQ below (QI G A r (gT G uT sT iT' jT ++ gC G uC iC tC sC)) args s 0 0 A = QQ
  unfold f_X8_personHere at hf
  refine lv_aload_n X.hx X.hb dX8_personHere_0 rfl (lv_at hl 0 rfl) ?_
  obtain ⟨r_1, hc_2, hf⟩ := bd_i hf
  refine r_bvi ([] : va_W) (gC G uC iC tC sC) (As := []) (rest := []) X sm_X8_97 (c_X8_isName l G N uT sT iT jT hc_2) hP hD hS hA (by simp only [List.append_assoc, List.append_nil, List.nil_append]) (wo := (gT G uT sT iT jT ++ gC G uC iC tC sC)) (by simp only [List.append_assoc, List.append_nil, List.nil_append]) 0 rfl rfl rfl hl.1 (lv_room (Nat.le_of_ble_eq_true rfl)) ⟨Nat.le_of_ble_eq_true rfl, Nat.le_of_ble_eq_true rfl⟩ ⟨Nat.zero_le _, Nat.zero_le _⟩ dX8_personHere_1 (fun H locs hP hD hS => ?_)
  obtain ⟨K_3, eK_5, hf⟩ := jn_i hf
  have hj_4 : ∀ (y_6 : Int32) (H : Heap) (locs : List Loc) (ls : Array Slot), K_3 y_6 = some (r, iT') → va_P G.1 vwCl (gT G uT sT iT jT ++ gC G uC iC tC sC) H → va_D A (gT G uT sT iT jT ++ gC G uC iC tC sC) → va_S A s.heap H locs → lv_has ls 3 [(0, .ref (uT 0))] → W p l e (RM 2) s m args below meth c H locs 0 0 QQ (F0 m 19 ls [.int y_6]) := by
    intro y_6 H locs ls hf hP hD hS hl
    rw [eK_5] at hf
    try dsimp only at hf
    refine lv_istore_n (lv' := [(2, .int y_6), (0, .ref (uT 0))]) X.hx X.hb dX8_personHere_19 rfl hl (by decide) rfl (fun ls hl => ?_)
    refine lv_iload_n X.hx X.hb dX8_personHere_20 rfl (lv_at hl 0 rfl) ?_
    obtain ⟨K_7, eK_9, hf⟩ := jn_i hf
    have hj_8 : ∀ (H : Heap) (locs : List Loc) (ls : Array Slot), K_7 () = some (r, iT') → va_P G.1 vwCl (gT G uT sT iT jT ++ gC G uC iC tC sC) H → va_D A (gT G uT sT iT jT ++ gC G uC iC tC sC) → va_S A s.heap H locs → lv_has ls 3 [(0, .ref (uT 0))] → W p l e (RM 2) s m args below meth c H locs 0 0 QQ (F0 m 30 ls []) := by
      intro  H locs ls hf hP hD hS hl
      rw [eK_9] at hf
      try dsimp only at hf
      refine lv_aload_n X.hx X.hb dX8_personHere_30 rfl (lv_at hl 0 rfl) ?_
      refine lv_aload_n X.hx X.hb dX8_personHere_31 rfl (lv_at hl 0 rfl) ?_
      obtain ⟨r_10, hc_11, hf⟩ := bd_i hf
      refine r_bvi ([] : va_W) (gC G uC iC tC sC) (As := []) (rest := [.ref (uT 0)]) X sm_X8_97 (c_X8_isName l G N uT sT iT jT hc_11) hP hD hS hA (by simp only [List.append_assoc, List.append_nil, List.nil_append]) (wo := (gT G uT sT iT jT ++ gC G uC iC tC sC)) (by simp only [List.append_assoc, List.append_nil, List.nil_append]) 0 rfl rfl rfl hl.1 (lv_room (Nat.le_of_ble_eq_true rfl)) ⟨Nat.le_of_ble_eq_true rfl, Nat.le_of_ble_eq_true rfl⟩ ⟨Nat.zero_le _, Nat.zero_le _⟩ dX8_personHere_32 (fun H locs hP hD hS => ?_)
      obtain ⟨K_12, eK_14, hf⟩ := jn_i hf
      have hj_13 : ∀ (y_15 : Int32) (H : Heap) (locs : List Loc) (ls : Array Slot), K_12 y_15 = some (r, iT') → va_P G.1 vwCl (gT G uT sT iT jT ++ gC G uC iC tC sC) H → va_D A (gT G uT sT iT jT ++ gC G uC iC tC sC) → va_S A s.heap H locs → lv_has ls 3 [] → W p l e (RM 2) s m args below meth c H locs 0 0 QQ (F0 m 43 ls [.int y_15, .ref (uT 0)]) := by
        intro y_15 H locs ls hf hP hD hS hl
        rw [eK_14] at hf
        try dsimp only at hf
        obtain ⟨⟨r_16, iT_17⟩, hc_18, hf⟩ := bd_i hf
        refine r_bvi ([] : va_W) (gC G uC iC tC sC) (As := [.int y_15]) (rest := []) X sm_X8_93 (c_X8_refuse l G N uT sT iT jT y_15 hc_18) hP hD hS hA (by simp only [List.append_assoc, List.append_nil, List.nil_append]) (wo := (gT G uT sT iT_17 jT ++ gC G uC iC tC sC)) (by simp only [List.append_assoc, List.append_nil, List.nil_append]) 0 rfl rfl rfl hl.1 (lv_room (Nat.le_of_ble_eq_true rfl)) ⟨Nat.le_of_ble_eq_true rfl, Nat.le_of_ble_eq_true rfl⟩ ⟨Nat.zero_le _, Nat.zero_le _⟩ dX8_personHere_43 (fun H locs hP hD hS => ?_)
        refine lv_pop X.hx X.hb dX8_personHere_46 rfl ?_
        refine lv_iconst (v := (-1)) X.hx X.hb dX8_personHere_47 (by decide) ?_
        cases hf
        subst hQ
        exact r_iret X hP hD hS dX8_personHere_48
      refine lv_if_eq (tgt := 42) X.hx X.hb dX8_personHere_35 (by decide) (fun hc_19 => ?_) (fun hc_19 => ?_)
      · replace hf := if_t hf hc_19
        refine lv_iconst (v := 1) X.hx X.hb dX8_personHere_42 (by decide) ?_
        exact hj_13 _ _ _ _ hf hP hD hS (lv_sub hl [] rfl)
      · replace hf := if_f hf hc_19
        refine lv_iconst (v := 3) X.hx X.hb dX8_personHere_38 (by decide) ?_
        refine lv_goto (tgt := 43) X.hx X.hb dX8_personHere_39 (by decide) ?_
        exact hj_13 _ _ _ _ hf hP hD hS (lv_sub hl [] rfl)
    refine lv_if_lt (tgt := 30) X.hx X.hb dX8_personHere_21 (by decide) (fun hc_20 => ?_) (fun hc_20 => ?_)
    · replace hf := if_t hf hc_20
      exact hj_8 _ _ _ hf hP hD hS (lv_sub hl [1] rfl)
    · replace hf := if_f hf hc_20
      refine lv_iload_n X.hx X.hb dX8_personHere_24 rfl (lv_at hl 0 rfl) ?_
      refine lv_bipush (v := 7) X.hx X.hb dX8_personHere_25 (by decide) ?_
      refine lv_icmp_lt (tgt := 49) X.hx X.hb dX8_personHere_27 (by decide) (fun hc_21 => ?_) (fun hc_21 => ?_)
      · replace hf := if_t hf hc_21
        refine lv_iload_n X.hx X.hb dX8_personHere_49 rfl (lv_at hl 0 rfl) ?_
        cases hf
        subst hQ
        exact r_iret X hP hD hS dX8_personHere_50
      · replace hf := if_f hf hc_21
        exact hj_8 _ _ _ hf hP hD hS (lv_sub hl [1] rfl)
  refine lv_if_eq (tgt := 18) X.hx X.hb dX8_personHere_4 (by decide) (fun hc_22 => ?_) (fun hc_22 => ?_)
  · replace hf := if_t hf hc_22
    refine lv_iconst (v := (-1)) X.hx X.hb dX8_personHere_18 (by decide) ?_
    exact hj_4 _ _ _ _ hf hP hD hS (lv_sub hl [0] rfl)
  · replace hf := if_f hf hc_22
    refine lv_aload_n X.hx X.hb dX8_personHere_7 rfl (lv_at hl 1 rfl) ?_
    refine lv_aload_n X.hx X.hb dX8_personHere_8 rfl (lv_at hl 0 rfl) ?_
    refine gf_X8_82 X hP 0 rfl (v := .long (jT 10)) rfl dX8_personHere_9 ?_
    obtain ⟨r_23, hc_24, hf⟩ := bd_i hf
    refine r_bvi (gT G uT sT iT jT) ([] : va_W) (As := [.long (jT 10)]) (rest := []) X sm_X8_101 (c_X1_slotOf l G N uC iC tC sC (jT 10) hc_24) hP hD hS hA (by simp only [List.append_assoc, List.append_nil, List.nil_append]) (wo := (gT G uT sT iT jT ++ gC G uC iC tC sC)) (by simp only [List.append_assoc, List.append_nil, List.nil_append]) 0 rfl rfl rfl hl.1 (lv_room (Nat.le_of_ble_eq_true rfl)) ⟨Nat.le_of_ble_eq_true rfl, Nat.le_of_ble_eq_true rfl⟩ ⟨Nat.zero_le _, Nat.zero_le _⟩ dX8_personHere_12 (fun H locs hP hD hS => ?_)
    refine lv_goto (tgt := 19) X.hx X.hb dX8_personHere_15 (by decide) ?_
    exact hj_4 _ _ _ _ hf hP hD hS (lv_sub hl [0] rfl)

def f_X8_passPerson (N : Nat) (sT : Nat → Nat → Int32) (iT : Nat → Int32) (jT : Nat → Int64) (iC : Nat → Int32) (tC : Nat → Nat → Int64) (sC : Nat → Nat → Int32) : Option (Int32 × (Nat → Int32) × (Nat → Int64)) :=
  bd (f_X8_personHere N sT iT jT iC tC sC) (fun (r_1, iT_2) => (if r_1 = (-1) then some (r_1, iT_2, jT) else bd (f_X8_next N sT iT_2 jT) (fun (iT_5, jT_6) => some (r_1, iT_5, jT_6))))
set_option maxHeartbeats 4000000 in
set_option maxRecDepth 100000 in
theorem c_X8_passPerson (l : Launch) (G : GT) (N : Nat) (uT uC : Nat → Nat) (sT : Nat → Nat → Int32) (iT : Nat → Int32) (jT : Nat → Int64) (iC : Nat → Int32) (tC : Nat → Nat → Int64) (sC : Nat → Nat → Int32) {r : Int32} {iT' : Nat → Int32} {jT' : Nat → Int64} (hf : f_X8_passPerson N sT iT jT iC tC sC = some (r, iT', jT')) : CI l G yX8_passPerson cX8_passPerson 3 .int 3 [.ref (uT 0), .ref (uC 0)] (gT G uT sT iT jT ++ gC G uC iC tC sC) r (gT G uT sT iT' jT' ++ gC G uC iC tC sC) := by
  refine CI.of (by decide) (Nat.le_of_ble_eq_true rfl) ?_
  intro p e s m args below meth c A X hA hP hD hS ls hl
  have hl : lv_has ls 3 [(0, .ref (uT 0)), (1, .ref (uC 0))] := hl
  generalize hQ : MQ below (QI G A r (gT G uT sT iT' jT' ++ gC G uC iC tC sC)) args s 0 0 A = QQ
  unfold f_X8_passPerson at hf
  refine lv_aload_n X.hx X.hb dX8_passPerson_0 rfl (lv_at hl 0 rfl) ?_
  refine lv_aload_n X.hx X.hb dX8_passPerson_1 rfl (lv_at hl 1 rfl) ?_
  obtain ⟨⟨r_1, iT_2⟩, hc_3, hf⟩ := bd_i hf
  refine r_wvi (As := [.ref (uC 0)]) (rest := []) X sm_X8_106 (c_X8_personHere l G N uT uC sT iT jT iC tC sC hc_3) hP hD hS hA 0 rfl rfl rfl hl.1 (lv_room (Nat.le_of_ble_eq_true rfl)) ⟨Nat.le_of_ble_eq_true rfl, Nat.le_of_ble_eq_true rfl⟩ ⟨Nat.zero_le _, Nat.zero_le _⟩ dX8_passPerson_2 (fun H locs hP hD hS => ?_)
  refine lv_istore_n (lv' := [(2, .int r_1), (0, .ref (uT 0)), (1, .ref (uC 0))]) X.hx X.hb dX8_passPerson_5 rfl hl (by decide) rfl (fun ls hl => ?_)
  refine lv_iload_n X.hx X.hb dX8_passPerson_6 rfl (lv_at hl 0 rfl) ?_
  refine lv_iconst (v := (-1)) X.hx X.hb dX8_passPerson_7 (by decide) ?_
  refine lv_icmp_eq (tgt := 15) X.hx X.hb dX8_passPerson_8 (by decide) (fun hc_4 => ?_) (fun hc_4 => ?_)
  · replace hf := if_t hf hc_4
    refine lv_iload_n X.hx X.hb dX8_passPerson_15 rfl (lv_at hl 0 rfl) ?_
    cases hf
    subst hQ
    exact r_iret X hP hD hS dX8_passPerson_16
  · replace hf := if_f hf hc_4
    refine lv_aload_n X.hx X.hb dX8_passPerson_11 rfl (lv_at hl 1 rfl) ?_
    obtain ⟨⟨iT_5, jT_6⟩, hc_7, hf⟩ := bd_i hf
    refine r_bvv ([] : va_W) (gC G uC iC tC sC) (As := []) (rest := []) X sm_X8_60 (c_X8_next l G N uT sT iT_2 jT hc_7) hP hD hS hA (by simp only [List.append_assoc, List.append_nil, List.nil_append]) (wo := (gT G uT sT iT_5 jT_6 ++ gC G uC iC tC sC)) (by simp only [List.append_assoc, List.append_nil, List.nil_append]) 0 rfl rfl rfl hl.1 (lv_room (Nat.le_of_ble_eq_true rfl)) ⟨Nat.le_of_ble_eq_true rfl, Nat.le_of_ble_eq_true rfl⟩ ⟨Nat.zero_le _, Nat.zero_le _⟩ dX8_passPerson_12 (fun H locs hP hD hS => ?_)
    refine lv_iload_n X.hx X.hb dX8_passPerson_15 rfl (lv_at hl 0 rfl) ?_
    cases hf
    subst hQ
    exact r_iret X hP hD hS dX8_passPerson_16

def f_X8_goodHere (N : Nat) (sT : Nat → Nat → Int32) (iT : Nat → Int32) (jT : Nat → Int64) (iC : Nat → Int32) (tC : Nat → Nat → Int64) (sC : Nat → Nat → Int32) : Option (Int32 × (Nat → Int32)) :=
  bd (f_X8_isName N sT iT jT) (fun r_1 => jn (fun (z : (Int32)) => match z with | y_6 => (if (7 : Int32) ≤ y_6 then some ((y_6 - 7), iT) else bd (f_X8_isName N sT iT jT) (fun r_8 => jn (fun (z : (Int32)) => match z with | y_13 => bd (f_X8_refuse N sT iT jT y_13) (fun (r_14, iT_15) => some ((-1), iT_15))) (fun K_10 => (if r_8 = 0 then K_10 1 else K_10 3))))) (fun K_3 => (if r_1 = 0 then K_3 (-1) else bd (f_X1_slotOf N iC tC sC (jT 10)) (fun r_19 => K_3 r_19))))
set_option maxHeartbeats 4000000 in
set_option maxRecDepth 100000 in
theorem c_X8_goodHere (l : Launch) (G : GT) (N : Nat) (uT uC : Nat → Nat) (sT : Nat → Nat → Int32) (iT : Nat → Int32) (jT : Nat → Int64) (iC : Nat → Int32) (tC : Nat → Nat → Int64) (sC : Nat → Nat → Int32) {r : Int32} {iT' : Nat → Int32} (hf : f_X8_goodHere N sT iT jT iC tC sC = some (r, iT')) : CI l G yX8_goodHere cX8_goodHere 3 .int 2 [.ref (uT 0), .ref (uC 0)] (gT G uT sT iT jT ++ gC G uC iC tC sC) r (gT G uT sT iT' jT ++ gC G uC iC tC sC) := by
  refine CI.of (by decide) (Nat.le_of_ble_eq_true rfl) ?_
  intro p e s m args below meth c A X hA hP hD hS ls hl
  have hl : lv_has ls 3 [(0, .ref (uT 0)), (1, .ref (uC 0))] := hl
  generalize hQ : MQ below (QI G A r (gT G uT sT iT' jT ++ gC G uC iC tC sC)) args s 0 0 A = QQ
  unfold f_X8_goodHere at hf
  refine lv_aload_n X.hx X.hb dX8_goodHere_0 rfl (lv_at hl 0 rfl) ?_
  obtain ⟨r_1, hc_2, hf⟩ := bd_i hf
  refine r_bvi ([] : va_W) (gC G uC iC tC sC) (As := []) (rest := []) X sm_X8_97 (c_X8_isName l G N uT sT iT jT hc_2) hP hD hS hA (by simp only [List.append_assoc, List.append_nil, List.nil_append]) (wo := (gT G uT sT iT jT ++ gC G uC iC tC sC)) (by simp only [List.append_assoc, List.append_nil, List.nil_append]) 0 rfl rfl rfl hl.1 (lv_room (Nat.le_of_ble_eq_true rfl)) ⟨Nat.le_of_ble_eq_true rfl, Nat.le_of_ble_eq_true rfl⟩ ⟨Nat.zero_le _, Nat.zero_le _⟩ dX8_goodHere_1 (fun H locs hP hD hS => ?_)
  obtain ⟨K_3, eK_5, hf⟩ := jn_i hf
  have hj_4 : ∀ (y_6 : Int32) (H : Heap) (locs : List Loc) (ls : Array Slot), K_3 y_6 = some (r, iT') → va_P G.1 vwCl (gT G uT sT iT jT ++ gC G uC iC tC sC) H → va_D A (gT G uT sT iT jT ++ gC G uC iC tC sC) → va_S A s.heap H locs → lv_has ls 3 [(0, .ref (uT 0))] → W p l e (RM 2) s m args below meth c H locs 0 0 QQ (F0 m 19 ls [.int y_6]) := by
    intro y_6 H locs ls hf hP hD hS hl
    rw [eK_5] at hf
    try dsimp only at hf
    refine lv_istore_n (lv' := [(2, .int y_6), (0, .ref (uT 0))]) X.hx X.hb dX8_goodHere_19 rfl hl (by decide) rfl (fun ls hl => ?_)
    refine lv_iload_n X.hx X.hb dX8_goodHere_20 rfl (lv_at hl 0 rfl) ?_
    refine lv_bipush (v := 7) X.hx X.hb dX8_goodHere_21 (by decide) ?_
    refine lv_icmp_ge (tgt := 45) X.hx X.hb dX8_goodHere_23 (by decide) (fun hc_7 => ?_) (fun hc_7 => ?_)
    · replace hf := if_t hf hc_7
      refine lv_iload_n X.hx X.hb dX8_goodHere_45 rfl (lv_at hl 0 rfl) ?_
      refine lv_bipush (v := 7) X.hx X.hb dX8_goodHere_46 (by decide) ?_
      refine lv_isub X.hx X.hb dX8_goodHere_48 ?_
      cases hf
      subst hQ
      exact r_iret X hP hD hS dX8_goodHere_49
    · replace hf := if_f hf hc_7
      refine lv_aload_n X.hx X.hb dX8_goodHere_26 rfl (lv_at hl 1 rfl) ?_
      refine lv_aload_n X.hx X.hb dX8_goodHere_27 rfl (lv_at hl 1 rfl) ?_
      obtain ⟨r_8, hc_9, hf⟩ := bd_i hf
      refine r_bvi ([] : va_W) (gC G uC iC tC sC) (As := []) (rest := [.ref (uT 0)]) X sm_X8_97 (c_X8_isName l G N uT sT iT jT hc_9) hP hD hS hA (by simp only [List.append_assoc, List.append_nil, List.nil_append]) (wo := (gT G uT sT iT jT ++ gC G uC iC tC sC)) (by simp only [List.append_assoc, List.append_nil, List.nil_append]) 0 rfl rfl rfl hl.1 (lv_room (Nat.le_of_ble_eq_true rfl)) ⟨Nat.le_of_ble_eq_true rfl, Nat.le_of_ble_eq_true rfl⟩ ⟨Nat.zero_le _, Nat.zero_le _⟩ dX8_goodHere_28 (fun H locs hP hD hS => ?_)
      obtain ⟨K_10, eK_12, hf⟩ := jn_i hf
      have hj_11 : ∀ (y_13 : Int32) (H : Heap) (locs : List Loc) (ls : Array Slot), K_10 y_13 = some (r, iT') → va_P G.1 vwCl (gT G uT sT iT jT ++ gC G uC iC tC sC) H → va_D A (gT G uT sT iT jT ++ gC G uC iC tC sC) → va_S A s.heap H locs → lv_has ls 3 [] → W p l e (RM 2) s m args below meth c H locs 0 0 QQ (F0 m 39 ls [.int y_13, .ref (uT 0)]) := by
        intro y_13 H locs ls hf hP hD hS hl
        rw [eK_12] at hf
        try dsimp only at hf
        obtain ⟨⟨r_14, iT_15⟩, hc_16, hf⟩ := bd_i hf
        refine r_bvi ([] : va_W) (gC G uC iC tC sC) (As := [.int y_13]) (rest := []) X sm_X8_93 (c_X8_refuse l G N uT sT iT jT y_13 hc_16) hP hD hS hA (by simp only [List.append_assoc, List.append_nil, List.nil_append]) (wo := (gT G uT sT iT_15 jT ++ gC G uC iC tC sC)) (by simp only [List.append_assoc, List.append_nil, List.nil_append]) 0 rfl rfl rfl hl.1 (lv_room (Nat.le_of_ble_eq_true rfl)) ⟨Nat.le_of_ble_eq_true rfl, Nat.le_of_ble_eq_true rfl⟩ ⟨Nat.zero_le _, Nat.zero_le _⟩ dX8_goodHere_39 (fun H locs hP hD hS => ?_)
        refine lv_pop X.hx X.hb dX8_goodHere_42 rfl ?_
        refine lv_iconst (v := (-1)) X.hx X.hb dX8_goodHere_43 (by decide) ?_
        cases hf
        subst hQ
        exact r_iret X hP hD hS dX8_goodHere_44
      refine lv_if_eq (tgt := 38) X.hx X.hb dX8_goodHere_31 (by decide) (fun hc_17 => ?_) (fun hc_17 => ?_)
      · replace hf := if_t hf hc_17
        refine lv_iconst (v := 1) X.hx X.hb dX8_goodHere_38 (by decide) ?_
        exact hj_11 _ _ _ _ hf hP hD hS (lv_sub hl [] rfl)
      · replace hf := if_f hf hc_17
        refine lv_iconst (v := 3) X.hx X.hb dX8_goodHere_34 (by decide) ?_
        refine lv_goto (tgt := 39) X.hx X.hb dX8_goodHere_35 (by decide) ?_
        exact hj_11 _ _ _ _ hf hP hD hS (lv_sub hl [] rfl)
  refine lv_if_eq (tgt := 18) X.hx X.hb dX8_goodHere_4 (by decide) (fun hc_18 => ?_) (fun hc_18 => ?_)
  · replace hf := if_t hf hc_18
    refine lv_iconst (v := (-1)) X.hx X.hb dX8_goodHere_18 (by decide) ?_
    exact hj_4 _ _ _ _ hf hP hD hS (lv_sub hl [0] rfl)
  · replace hf := if_f hf hc_18
    refine lv_aload_n X.hx X.hb dX8_goodHere_7 rfl (lv_at hl 1 rfl) ?_
    refine lv_aload_n X.hx X.hb dX8_goodHere_8 rfl (lv_at hl 0 rfl) ?_
    refine gf_X8_82 X hP 0 rfl (v := .long (jT 10)) rfl dX8_goodHere_9 ?_
    obtain ⟨r_19, hc_20, hf⟩ := bd_i hf
    refine r_bvi (gT G uT sT iT jT) ([] : va_W) (As := [.long (jT 10)]) (rest := []) X sm_X8_101 (c_X1_slotOf l G N uC iC tC sC (jT 10) hc_20) hP hD hS hA (by simp only [List.append_assoc, List.append_nil, List.nil_append]) (wo := (gT G uT sT iT jT ++ gC G uC iC tC sC)) (by simp only [List.append_assoc, List.append_nil, List.nil_append]) 0 rfl rfl rfl hl.1 (lv_room (Nat.le_of_ble_eq_true rfl)) ⟨Nat.le_of_ble_eq_true rfl, Nat.le_of_ble_eq_true rfl⟩ ⟨Nat.zero_le _, Nat.zero_le _⟩ dX8_goodHere_12 (fun H locs hP hD hS => ?_)
    refine lv_goto (tgt := 19) X.hx X.hb dX8_goodHere_15 (by decide) ?_
    exact hj_4 _ _ _ _ hf hP hD hS (lv_sub hl [0] rfl)

def f_X8_passGood (N : Nat) (sT : Nat → Nat → Int32) (iT : Nat → Int32) (jT : Nat → Int64) (iC : Nat → Int32) (tC : Nat → Nat → Int64) (sC : Nat → Nat → Int32) : Option (Int32 × (Nat → Int32) × (Nat → Int64)) :=
  bd (f_X8_goodHere N sT iT jT iC tC sC) (fun (r_1, iT_2) => (if r_1 = (-1) then some (r_1, iT_2, jT) else bd (f_X8_next N sT iT_2 jT) (fun (iT_5, jT_6) => some (r_1, iT_5, jT_6))))
set_option maxHeartbeats 4000000 in
set_option maxRecDepth 100000 in
theorem c_X8_passGood (l : Launch) (G : GT) (N : Nat) (uT uC : Nat → Nat) (sT : Nat → Nat → Int32) (iT : Nat → Int32) (jT : Nat → Int64) (iC : Nat → Int32) (tC : Nat → Nat → Int64) (sC : Nat → Nat → Int32) {r : Int32} {iT' : Nat → Int32} {jT' : Nat → Int64} (hf : f_X8_passGood N sT iT jT iC tC sC = some (r, iT', jT')) : CI l G yX8_passGood cX8_passGood 3 .int 3 [.ref (uT 0), .ref (uC 0)] (gT G uT sT iT jT ++ gC G uC iC tC sC) r (gT G uT sT iT' jT' ++ gC G uC iC tC sC) := by
  refine CI.of (by decide) (Nat.le_of_ble_eq_true rfl) ?_
  intro p e s m args below meth c A X hA hP hD hS ls hl
  have hl : lv_has ls 3 [(0, .ref (uT 0)), (1, .ref (uC 0))] := hl
  generalize hQ : MQ below (QI G A r (gT G uT sT iT' jT' ++ gC G uC iC tC sC)) args s 0 0 A = QQ
  unfold f_X8_passGood at hf
  refine lv_aload_n X.hx X.hb dX8_passGood_0 rfl (lv_at hl 0 rfl) ?_
  refine lv_aload_n X.hx X.hb dX8_passGood_1 rfl (lv_at hl 1 rfl) ?_
  obtain ⟨⟨r_1, iT_2⟩, hc_3, hf⟩ := bd_i hf
  refine r_wvi (As := [.ref (uC 0)]) (rest := []) X sm_X8_110 (c_X8_goodHere l G N uT uC sT iT jT iC tC sC hc_3) hP hD hS hA 0 rfl rfl rfl hl.1 (lv_room (Nat.le_of_ble_eq_true rfl)) ⟨Nat.le_of_ble_eq_true rfl, Nat.le_of_ble_eq_true rfl⟩ ⟨Nat.zero_le _, Nat.zero_le _⟩ dX8_passGood_2 (fun H locs hP hD hS => ?_)
  refine lv_istore_n (lv' := [(2, .int r_1), (0, .ref (uT 0)), (1, .ref (uC 0))]) X.hx X.hb dX8_passGood_5 rfl hl (by decide) rfl (fun ls hl => ?_)
  refine lv_iload_n X.hx X.hb dX8_passGood_6 rfl (lv_at hl 0 rfl) ?_
  refine lv_iconst (v := (-1)) X.hx X.hb dX8_passGood_7 (by decide) ?_
  refine lv_icmp_eq (tgt := 15) X.hx X.hb dX8_passGood_8 (by decide) (fun hc_4 => ?_) (fun hc_4 => ?_)
  · replace hf := if_t hf hc_4
    refine lv_iload_n X.hx X.hb dX8_passGood_15 rfl (lv_at hl 0 rfl) ?_
    cases hf
    subst hQ
    exact r_iret X hP hD hS dX8_passGood_16
  · replace hf := if_f hf hc_4
    refine lv_aload_n X.hx X.hb dX8_passGood_11 rfl (lv_at hl 1 rfl) ?_
    obtain ⟨⟨iT_5, jT_6⟩, hc_7, hf⟩ := bd_i hf
    refine r_bvv ([] : va_W) (gC G uC iC tC sC) (As := []) (rest := []) X sm_X8_60 (c_X8_next l G N uT sT iT_2 jT hc_7) hP hD hS hA (by simp only [List.append_assoc, List.append_nil, List.nil_append]) (wo := (gT G uT sT iT_5 jT_6 ++ gC G uC iC tC sC)) (by simp only [List.append_assoc, List.append_nil, List.nil_append]) 0 rfl rfl rfl hl.1 (lv_room (Nat.le_of_ble_eq_true rfl)) ⟨Nat.le_of_ble_eq_true rfl, Nat.le_of_ble_eq_true rfl⟩ ⟨Nat.zero_le _, Nat.zero_le _⟩ dX8_passGood_12 (fun H locs hP hD hS => ?_)
    refine lv_iload_n X.hx X.hb dX8_passGood_15 rfl (lv_at hl 0 rfl) ?_
    cases hf
    subst hQ
    exact r_iret X hP hD hS dX8_passGood_16

def f_X2_passNewName (N : Nat) (iR : Nat → Int32) (sT : Nat → Nat → Int32) (iT : Nat → Int32) (jT : Nat → Int64) (iC : Nat → Int32) (tC : Nat → Nat → Int64) (sC : Nat → Nat → Int32) (p1 : Int32) : Option (Int32 × (Nat → Int32) × (Nat → Int64) × (Nat → Nat → Int64)) :=
  bd (f_X8_isName N sT iT jT) (fun r_1 => (if r_1 = 0 then bd (f_X8_refuse N sT iT jT 1) (fun (r_16, iT_17) => zb r_16 (some (r_16, iT_17, jT, tC))) else bd (f_X1_slotOf N iC tC sC (jT 10)) (fun r_4 => (if r_4 = (-1) then ck p1 12 (nv (vp_updL (tC 2) (ix p1) (jT 10)) (fun g_8 => bd (f_X8_next N sT iT jT) (fun (iT_9, jT_10) => some (1, iT_9, jT_10, (va_up tC 2 g_8))))) else bd (f_X8_refuse N sT iT jT 3) (fun (r_12, iT_13) => zb r_12 (some (r_12, iT_13, jT, tC)))))))
set_option maxHeartbeats 4000000 in
set_option maxRecDepth 100000 in
theorem c_X2_passNewName (l : Launch) (G : GT) (N : Nat) (uR uT uC : Nat → Nat) (iR : Nat → Int32) (sT : Nat → Nat → Int32) (iT : Nat → Int32) (jT : Nat → Int64) (iC : Nat → Int32) (tC : Nat → Nat → Int64) (sC : Nat → Nat → Int32) (p1 : Int32) {r : Int32} {iT' : Nat → Int32} {jT' : Nat → Int64} {tC' : Nat → Nat → Int64} (hf : f_X2_passNewName N iR sT iT jT iC tC sC p1 = some (r, iT', jT', tC')) : CI l G yX2_passNewName cX2_passNewName 2 .boolean 3 [.ref (uR 0), .int p1] (gR G uR (uT 0) (uC 0) iR ++ gT G uT sT iT jT ++ gC G uC iC tC sC) r (gR G uR (uT 0) (uC 0) iR ++ gT G uT sT iT' jT' ++ gC G uC iC tC' sC) := by
  refine CI.of (by decide) (Nat.le_of_ble_eq_true rfl) ?_
  intro p e s m args below meth c A X hA hP hD hS ls hl
  have hl : lv_has ls 2 [(0, .ref (uR 0)), (1, .int p1)] := hl
  generalize hQ : MQ below (QI G A r (gR G uR (uT 0) (uC 0) iR ++ gT G uT sT iT' jT' ++ gC G uC iC tC' sC)) args s 0 0 A = QQ
  unfold f_X2_passNewName at hf
  refine lv_aload_n X.hx X.hb dX2_passNewName_0 rfl (lv_at hl 0 rfl) ?_
  refine gf_X2_18 X hP 0 rfl (v := .ref (uT 0)) rfl dX2_passNewName_1 ?_
  obtain ⟨r_1, hc_2, hf⟩ := bd_i hf
  refine r_bvi (gR G uR (uT 0) (uC 0) iR) (gC G uC iC tC sC) (As := []) (rest := []) X sm_X2_113 (c_X8_isName l G N uT sT iT jT hc_2) hP hD hS hA (by simp only [List.append_assoc, List.append_nil, List.nil_append]) (wo := (gR G uR (uT 0) (uC 0) iR ++ gT G uT sT iT jT ++ gC G uC iC tC sC)) (by simp only [List.append_assoc, List.append_nil, List.nil_append]) 0 rfl rfl rfl hl.1 (lv_room (Nat.le_of_ble_eq_true rfl)) ⟨Nat.le_of_ble_eq_true rfl, Nat.le_of_ble_eq_true rfl⟩ ⟨Nat.zero_le _, Nat.zero_le _⟩ dX2_passNewName_4 (fun H locs hP hD hS => ?_)
  refine lv_if_ne (tgt := 19) X.hx X.hb dX2_passNewName_7 (by decide) (fun hc_3 => ?_) (fun hc_3 => ?_)
  · replace hf := if_f hf hc_3
    refine lv_aload_n X.hx X.hb dX2_passNewName_19 rfl (lv_at hl 0 rfl) ?_
    refine gf_X2_12 X hP 0 rfl (v := .ref (uC 0)) rfl dX2_passNewName_20 ?_
    refine lv_aload_n X.hx X.hb dX2_passNewName_23 rfl (lv_at hl 0 rfl) ?_
    refine gf_X2_18 X hP 0 rfl (v := .ref (uT 0)) rfl dX2_passNewName_24 ?_
    refine gf_X2_116 X hP 1 rfl (v := .long (jT 10)) rfl dX2_passNewName_27 ?_
    obtain ⟨r_4, hc_5, hf⟩ := bd_i hf
    refine r_bvi (gR G uR (uT 0) (uC 0) iR ++ gT G uT sT iT jT) ([] : va_W) (As := [.long (jT 10)]) (rest := []) X sm_X2_120 (c_X1_slotOf l G N uC iC tC sC (jT 10) hc_5) hP hD hS hA (by simp only [List.append_assoc, List.append_nil, List.nil_append]) (wo := (gR G uR (uT 0) (uC 0) iR ++ gT G uT sT iT jT ++ gC G uC iC tC sC)) (by simp only [List.append_assoc, List.append_nil, List.nil_append]) 0 rfl rfl rfl hl.1 (lv_room (Nat.le_of_ble_eq_true rfl)) ⟨Nat.le_of_ble_eq_true rfl, Nat.le_of_ble_eq_true rfl⟩ ⟨Nat.zero_le _, Nat.zero_le _⟩ dX2_passNewName_30 (fun H locs hP hD hS => ?_)
    refine lv_iconst (v := (-1)) X.hx X.hb dX2_passNewName_33 (by decide) ?_
    refine lv_icmp_eq (tgt := 46) X.hx X.hb dX2_passNewName_34 (by decide) (fun hc_6 => ?_) (fun hc_6 => ?_)
    · replace hf := if_t hf hc_6
      refine lv_aload_n X.hx X.hb dX2_passNewName_46 rfl (lv_at hl 0 rfl) ?_
      refine gf_X2_12 X hP 0 rfl (v := .ref (uC 0)) rfl dX2_passNewName_47 ?_
      refine gf_X2_124 X hP 4 rfl (v := .ref (uC 3)) rfl dX2_passNewName_50 ?_
      refine lv_iload_n X.hx X.hb dX2_passNewName_53 rfl (lv_at hl 1 rfl) ?_
      refine lv_aload_n X.hx X.hb dX2_passNewName_54 rfl (lv_at hl 0 rfl) ?_
      refine gf_X2_18 X hP 0 rfl (v := .ref (uT 0)) rfl dX2_passNewName_55 ?_
      refine gf_X2_116 X hP 1 rfl (v := .long (jT 10)) rfl dX2_passNewName_58 ?_
      obtain ⟨hi_7, hf⟩ := ck_i hf
      obtain ⟨g_8, eg_8, hf⟩ := nv_i hf
      refine r_last X hP hD hS 5 (f := (tC 2)) rfl hi_7 (wo := (gR G uR (uT 0) (uC 0) iR ++ gT G uT sT iT jT ++ gC G uC iC (va_up tC 2 g_8) sC)) (by subst eg_8; rfl) dX2_passNewName_61 (fun H locs hP hD hS => ?_)
      refine lv_aload_n X.hx X.hb dX2_passNewName_62 rfl (lv_at hl 0 rfl) ?_
      refine gf_X2_18 X hP 0 rfl (v := .ref (uT 0)) rfl dX2_passNewName_63 ?_
      obtain ⟨⟨iT_9, jT_10⟩, hc_11, hf⟩ := bd_i hf
      refine r_bvv (gR G uR (uT 0) (uC 0) iR) (gC G uC iC (va_up tC 2 g_8) sC) (As := []) (rest := []) X sm_X2_97 (c_X8_next l G N uT sT iT jT hc_11) hP hD hS hA (by simp only [List.append_assoc, List.append_nil, List.nil_append]) (wo := (gR G uR (uT 0) (uC 0) iR ++ gT G uT sT iT_9 jT_10 ++ gC G uC iC (va_up tC 2 g_8) sC)) (by simp only [List.append_assoc, List.append_nil, List.nil_append]) 0 rfl rfl rfl hl.1 (lv_room (Nat.le_of_ble_eq_true rfl)) ⟨Nat.le_of_ble_eq_true rfl, Nat.le_of_ble_eq_true rfl⟩ ⟨Nat.zero_le _, Nat.zero_le _⟩ dX2_passNewName_66 (fun H locs hP hD hS => ?_)
      refine lv_iconst (v := 1) X.hx X.hb dX2_passNewName_69 (by decide) ?_
      cases hf
      subst hQ
      exact r_zret X hP hD hS (by decide) dX2_passNewName_70
    · replace hf := if_f hf hc_6
      refine lv_aload_n X.hx X.hb dX2_passNewName_37 rfl (lv_at hl 0 rfl) ?_
      refine gf_X2_18 X hP 0 rfl (v := .ref (uT 0)) rfl dX2_passNewName_38 ?_
      refine lv_iconst (v := 3) X.hx X.hb dX2_passNewName_41 (by decide) ?_
      obtain ⟨⟨r_12, iT_13⟩, hc_14, hf⟩ := bd_i hf
      refine r_bvi (gR G uR (uT 0) (uC 0) iR) (gC G uC iC tC sC) (As := [.int 3]) (rest := []) X sm_X2_91 (c_X8_refuse l G N uT sT iT jT 3 hc_14) hP hD hS hA (by simp only [List.append_assoc, List.append_nil, List.nil_append]) (wo := (gR G uR (uT 0) (uC 0) iR ++ gT G uT sT iT_13 jT ++ gC G uC iC tC sC)) (by simp only [List.append_assoc, List.append_nil, List.nil_append]) 0 rfl rfl rfl hl.1 (lv_room (Nat.le_of_ble_eq_true rfl)) ⟨Nat.le_of_ble_eq_true rfl, Nat.le_of_ble_eq_true rfl⟩ ⟨Nat.zero_le _, Nat.zero_le _⟩ dX2_passNewName_42 (fun H locs hP hD hS => ?_)
      obtain ⟨hb_15, hf⟩ := zb_i hf
      cases hf
      subst hQ
      exact r_zret X hP hD hS hb_15 dX2_passNewName_45
  · replace hf := if_t hf hc_3
    refine lv_aload_n X.hx X.hb dX2_passNewName_10 rfl (lv_at hl 0 rfl) ?_
    refine gf_X2_18 X hP 0 rfl (v := .ref (uT 0)) rfl dX2_passNewName_11 ?_
    refine lv_iconst (v := 1) X.hx X.hb dX2_passNewName_14 (by decide) ?_
    obtain ⟨⟨r_16, iT_17⟩, hc_18, hf⟩ := bd_i hf
    refine r_bvi (gR G uR (uT 0) (uC 0) iR) (gC G uC iC tC sC) (As := [.int 1]) (rest := []) X sm_X2_91 (c_X8_refuse l G N uT sT iT jT 1 hc_18) hP hD hS hA (by simp only [List.append_assoc, List.append_nil, List.nil_append]) (wo := (gR G uR (uT 0) (uC 0) iR ++ gT G uT sT iT_17 jT ++ gC G uC iC tC sC)) (by simp only [List.append_assoc, List.append_nil, List.nil_append]) 0 rfl rfl rfl hl.1 (lv_room (Nat.le_of_ble_eq_true rfl)) ⟨Nat.le_of_ble_eq_true rfl, Nat.le_of_ble_eq_true rfl⟩ ⟨Nat.zero_le _, Nat.zero_le _⟩ dX2_passNewName_15 (fun H locs hP hD hS => ?_)
    obtain ⟨hb_19, hf⟩ := zb_i hf
    cases hf
    subst hQ
    exact r_zret X hP hD hS hb_19 dX2_passNewName_18

def f_X2_readPerson (N : Nat) (iR : Nat → Int32) (sT : Nat → Nat → Int32) (iT : Nat → Int32) (jT : Nat → Int64) (iC : Nat → Int32) (tC : Nat → Nat → Int64) (sC : Nat → Nat → Int32) : Option (Int32 × (Nat → Int32) × (Nat → Int64) × (Nat → Int32) × (Nat → Nat → Int64) × (Nat → Nat → Int32)) :=
  (if (iC 0) < 7 then bd (f_X8_next N sT iT jT) (fun (iT_2, jT_3) => bd (f_X2_passNewName N iR sT iT_2 jT_3 iC tC sC (iC 0)) (fun (r_5, iT_6, jT_7, tC_8) => (if r_5 = 0 then some (0, iT_6, jT_7, iC, tC_8, sC) else bd (f_X8_passNumber N sT iT_6 jT_7 0 99) (fun (r_11, iT_12, jT_13) => (if r_11 = (-1) then some (0, iT_12, jT_13, iC, tC_8, sC) else ck (iC 0) 7 (nv (upd (sC 3) (ix (iC 0)) r_11) (fun g_17 => some (1, iT_12, jT_13, (va_up iC 0 ((iC 0) + 1)), tC_8, (va_up sC 3 g_17))))))))) else bd (f_X8_refuse N sT iT jT 4) (fun (r_18, iT_19) => zb r_18 (some (r_18, iT_19, jT, iC, tC, sC))))
set_option maxHeartbeats 4000000 in
set_option maxRecDepth 100000 in
theorem c_X2_readPerson (l : Launch) (G : GT) (N : Nat) (uR uT uC : Nat → Nat) (iR : Nat → Int32) (sT : Nat → Nat → Int32) (iT : Nat → Int32) (jT : Nat → Int64) (iC : Nat → Int32) (tC : Nat → Nat → Int64) (sC : Nat → Nat → Int32) {r : Int32} {iT' : Nat → Int32} {jT' : Nat → Int64} {iC' : Nat → Int32} {tC' : Nat → Nat → Int64} {sC' : Nat → Nat → Int32} (hf : f_X2_readPerson N iR sT iT jT iC tC sC = some (r, iT', jT', iC', tC', sC')) : CI l G yX2_readPerson cX2_readPerson 2 .boolean 4 [.ref (uR 0)] (gR G uR (uT 0) (uC 0) iR ++ gT G uT sT iT jT ++ gC G uC iC tC sC) r (gR G uR (uT 0) (uC 0) iR ++ gT G uT sT iT' jT' ++ gC G uC iC' tC' sC') := by
  refine CI.of (by decide) (Nat.le_of_ble_eq_true rfl) ?_
  intro p e s m args below meth c A X hA hP hD hS ls hl
  have hl : lv_has ls 2 [(0, .ref (uR 0))] := hl
  generalize hQ : MQ below (QI G A r (gR G uR (uT 0) (uC 0) iR ++ gT G uT sT iT' jT' ++ gC G uC iC' tC' sC')) args s 0 0 A = QQ
  unfold f_X2_readPerson at hf
  refine lv_aload_n X.hx X.hb dX2_readPerson_0 rfl (lv_at hl 0 rfl) ?_
  refine gf_X2_12 X hP 0 rfl (v := .ref (uC 0)) rfl dX2_readPerson_1 ?_
  refine gf_X2_94 X hP 4 rfl (v := .int (iC 0)) rfl dX2_readPerson_4 ?_
  refine lv_bipush (v := 7) X.hx X.hb dX2_readPerson_7 (by decide) ?_
  refine lv_icmp_lt (tgt := 21) X.hx X.hb dX2_readPerson_9 (by decide) (fun hc_1 => ?_) (fun hc_1 => ?_)
  · replace hf := if_t hf hc_1
    refine lv_aload_n X.hx X.hb dX2_readPerson_21 rfl (lv_at hl 0 rfl) ?_
    refine gf_X2_18 X hP 0 rfl (v := .ref (uT 0)) rfl dX2_readPerson_22 ?_
    obtain ⟨⟨iT_2, jT_3⟩, hc_4, hf⟩ := bd_i hf
    refine r_bvv (gR G uR (uT 0) (uC 0) iR) (gC G uC iC tC sC) (As := []) (rest := []) X sm_X2_97 (c_X8_next l G N uT sT iT jT hc_4) hP hD hS hA (by simp only [List.append_assoc, List.append_nil, List.nil_append]) (wo := (gR G uR (uT 0) (uC 0) iR ++ gT G uT sT iT_2 jT_3 ++ gC G uC iC tC sC)) (by simp only [List.append_assoc, List.append_nil, List.nil_append]) 0 rfl rfl rfl hl.1 (lv_room (Nat.le_of_ble_eq_true rfl)) ⟨Nat.le_of_ble_eq_true rfl, Nat.le_of_ble_eq_true rfl⟩ ⟨Nat.zero_le _, Nat.zero_le _⟩ dX2_readPerson_25 (fun H locs hP hD hS => ?_)
    refine lv_aload_n X.hx X.hb dX2_readPerson_28 rfl (lv_at hl 0 rfl) ?_
    refine lv_aload_n X.hx X.hb dX2_readPerson_29 rfl (lv_at hl 0 rfl) ?_
    refine gf_X2_12 X hP 0 rfl (v := .ref (uC 0)) rfl dX2_readPerson_30 ?_
    refine gf_X2_94 X hP 4 rfl (v := .int (iC 0)) rfl dX2_readPerson_33 ?_
    obtain ⟨⟨r_5, iT_6, jT_7, tC_8⟩, hc_9, hf⟩ := bd_i hf
    refine r_wvi (As := [.int (iC 0)]) (rest := []) X sm_X2_100 (c_X2_passNewName l G N uR uT uC iR sT iT_2 jT_3 iC tC sC (iC 0) hc_9) hP hD hS hA 0 rfl rfl rfl hl.1 (lv_room (Nat.le_of_ble_eq_true rfl)) ⟨Nat.le_of_ble_eq_true rfl, Nat.le_of_ble_eq_true rfl⟩ ⟨Nat.zero_le _, Nat.zero_le _⟩ dX2_readPerson_36 (fun H locs hP hD hS => ?_)
    refine lv_if_ne (tgt := 44) X.hx X.hb dX2_readPerson_39 (by decide) (fun hc_10 => ?_) (fun hc_10 => ?_)
    · replace hf := if_f hf hc_10
      refine lv_aload_n X.hx X.hb dX2_readPerson_44 rfl (lv_at hl 0 rfl) ?_
      refine gf_X2_18 X hP 0 rfl (v := .ref (uT 0)) rfl dX2_readPerson_45 ?_
      refine lv_iconst (v := 0) X.hx X.hb dX2_readPerson_48 (by decide) ?_
      refine lv_bipush (v := 99) X.hx X.hb dX2_readPerson_49 (by decide) ?_
      obtain ⟨⟨r_11, iT_12, jT_13⟩, hc_14, hf⟩ := bd_i hf
      refine r_bvi (gR G uR (uT 0) (uC 0) iR) (gC G uC iC tC_8 sC) (As := [.int 0, .int 99]) (rest := []) X sm_X2_103 (c_X8_passNumber l G N uT sT iT_6 jT_7 0 99 hc_14) hP hD hS hA (by simp only [List.append_assoc, List.append_nil, List.nil_append]) (wo := (gR G uR (uT 0) (uC 0) iR ++ gT G uT sT iT_12 jT_13 ++ gC G uC iC tC_8 sC)) (by simp only [List.append_assoc, List.append_nil, List.nil_append]) 0 rfl rfl rfl hl.1 (lv_room (Nat.le_of_ble_eq_true rfl)) ⟨Nat.le_of_ble_eq_true rfl, Nat.le_of_ble_eq_true rfl⟩ ⟨Nat.zero_le _, Nat.zero_le _⟩ dX2_readPerson_51 (fun H locs hP hD hS => ?_)
      refine lv_istore_n (lv' := [(1, .int r_11), (0, .ref (uR 0))]) X.hx X.hb dX2_readPerson_54 rfl hl (by decide) rfl (fun ls hl => ?_)
      refine lv_iload_n X.hx X.hb dX2_readPerson_55 rfl (lv_at hl 0 rfl) ?_
      refine lv_iconst (v := (-1)) X.hx X.hb dX2_readPerson_56 (by decide) ?_
      refine lv_icmp_ne (tgt := 62) X.hx X.hb dX2_readPerson_57 (by decide) (fun hc_15 => ?_) (fun hc_15 => ?_)
      · replace hf := if_f hf hc_15
        refine lv_aload_n X.hx X.hb dX2_readPerson_62 rfl (lv_at hl 1 rfl) ?_
        refine gf_X2_12 X hP 0 rfl (v := .ref (uC 0)) rfl dX2_readPerson_63 ?_
        refine gf_X2_107 X hP 4 rfl (v := .ref (uC 4)) rfl dX2_readPerson_66 ?_
        refine lv_aload_n X.hx X.hb dX2_readPerson_69 rfl (lv_at hl 1 rfl) ?_
        refine gf_X2_12 X hP 0 rfl (v := .ref (uC 0)) rfl dX2_readPerson_70 ?_
        refine gf_X2_94 X hP 4 rfl (v := .int (iC 0)) rfl dX2_readPerson_73 ?_
        refine lv_iload_n X.hx X.hb dX2_readPerson_76 rfl (lv_at hl 0 rfl) ?_
        obtain ⟨hi_16, hf⟩ := ck_i hf
        obtain ⟨g_17, eg_17, hf⟩ := nv_i hf
        refine r_iast X hP hD hS 6 (f := (sC 3)) rfl hi_16 (wo := (gR G uR (uT 0) (uC 0) iR ++ gT G uT sT iT_12 jT_13 ++ gC G uC iC tC_8 (va_up sC 3 g_17))) (by subst eg_17; rfl) dX2_readPerson_77 (fun H locs hP hD hS => ?_)
        refine lv_aload_n X.hx X.hb dX2_readPerson_78 rfl (lv_at hl 1 rfl) ?_
        refine gf_X2_12 X hP 0 rfl (v := .ref (uC 0)) rfl dX2_readPerson_79 ?_
        refine lv_dup X.hx X.hb dX2_readPerson_82 rfl ?_
        refine gf_X2_94 X hP 4 rfl (v := .int (iC 0)) rfl dX2_readPerson_83 ?_
        refine lv_iconst (v := 1) X.hx X.hb dX2_readPerson_86 (by decide) ?_
        refine lv_iadd X.hx X.hb dX2_readPerson_87 ?_
        refine pf_X2_94 X hP hD hS 4 rfl rfl rfl (Nat.le_of_ble_eq_true rfl) (wo := (gR G uR (uT 0) (uC 0) iR ++ gT G uT sT iT_12 jT_13 ++ gC G uC (va_up iC 0 ((iC 0) + 1)) tC_8 (va_up sC 3 g_17))) rfl dX2_readPerson_88 (fun H locs hP hD hS => ?_)
        refine lv_iconst (v := 1) X.hx X.hb dX2_readPerson_91 (by decide) ?_
        cases hf
        subst hQ
        exact r_zret X hP hD hS (by decide) dX2_readPerson_92
      · replace hf := if_t hf hc_15
        refine lv_iconst (v := 0) X.hx X.hb dX2_readPerson_60 (by decide) ?_
        cases hf
        subst hQ
        exact r_zret X hP hD hS (by decide) dX2_readPerson_61
    · replace hf := if_t hf hc_10
      refine lv_iconst (v := 0) X.hx X.hb dX2_readPerson_42 (by decide) ?_
      cases hf
      subst hQ
      exact r_zret X hP hD hS (by decide) dX2_readPerson_43
  · replace hf := if_f hf hc_1
    refine lv_aload_n X.hx X.hb dX2_readPerson_12 rfl (lv_at hl 0 rfl) ?_
    refine gf_X2_18 X hP 0 rfl (v := .ref (uT 0)) rfl dX2_readPerson_13 ?_
    refine lv_iconst (v := 4) X.hx X.hb dX2_readPerson_16 (by decide) ?_
    obtain ⟨⟨r_18, iT_19⟩, hc_20, hf⟩ := bd_i hf
    refine r_bvi (gR G uR (uT 0) (uC 0) iR) (gC G uC iC tC sC) (As := [.int 4]) (rest := []) X sm_X2_91 (c_X8_refuse l G N uT sT iT jT 4 hc_20) hP hD hS hA (by simp only [List.append_assoc, List.append_nil, List.nil_append]) (wo := (gR G uR (uT 0) (uC 0) iR ++ gT G uT sT iT_19 jT ++ gC G uC iC tC sC)) (by simp only [List.append_assoc, List.append_nil, List.nil_append]) 0 rfl rfl rfl hl.1 (lv_room (Nat.le_of_ble_eq_true rfl)) ⟨Nat.le_of_ble_eq_true rfl, Nat.le_of_ble_eq_true rfl⟩ ⟨Nat.zero_le _, Nat.zero_le _⟩ dX2_readPerson_17 (fun H locs hP hD hS => ?_)
    obtain ⟨hb_21, hf⟩ := zb_i hf
    cases hf
    subst hQ
    exact r_zret X hP hD hS hb_21 dX2_readPerson_20

def f_X2_readGood (N : Nat) (iR : Nat → Int32) (sT : Nat → Nat → Int32) (iT : Nat → Int32) (jT : Nat → Int64) (iC : Nat → Int32) (tC : Nat → Nat → Int64) (sC : Nat → Nat → Int32) : Option (Int32 × (Nat → Int32) × (Nat → Int64) × (Nat → Int32) × (Nat → Nat → Int64)) :=
  (if (iC 1) < 5 then bd (f_X8_next N sT iT jT) (fun (iT_2, jT_3) => bd (f_X2_passNewName N iR sT iT_2 jT_3 iC tC sC ((7 : Int32) + (iC 1))) (fun (r_5, iT_6, jT_7, tC_8) => (if r_5 = 0 then some (0, iT_6, jT_7, iC, tC_8) else some (1, iT_6, jT_7, (va_up iC 1 ((iC 1) + 1)), tC_8)))) else bd (f_X8_refuse N sT iT jT 4) (fun (r_11, iT_12) => zb r_11 (some (r_11, iT_12, jT, iC, tC))))
set_option maxHeartbeats 4000000 in
set_option maxRecDepth 100000 in
theorem c_X2_readGood (l : Launch) (G : GT) (N : Nat) (uR uT uC : Nat → Nat) (iR : Nat → Int32) (sT : Nat → Nat → Int32) (iT : Nat → Int32) (jT : Nat → Int64) (iC : Nat → Int32) (tC : Nat → Nat → Int64) (sC : Nat → Nat → Int32) {r : Int32} {iT' : Nat → Int32} {jT' : Nat → Int64} {iC' : Nat → Int32} {tC' : Nat → Nat → Int64} (hf : f_X2_readGood N iR sT iT jT iC tC sC = some (r, iT', jT', iC', tC')) : CI l G yX2_readGood cX2_readGood 1 .boolean 4 [.ref (uR 0)] (gR G uR (uT 0) (uC 0) iR ++ gT G uT sT iT jT ++ gC G uC iC tC sC) r (gR G uR (uT 0) (uC 0) iR ++ gT G uT sT iT' jT' ++ gC G uC iC' tC' sC) := by
  refine CI.of (by decide) (Nat.le_of_ble_eq_true rfl) ?_
  intro p e s m args below meth c A X hA hP hD hS ls hl
  have hl : lv_has ls 1 [(0, .ref (uR 0))] := hl
  generalize hQ : MQ below (QI G A r (gR G uR (uT 0) (uC 0) iR ++ gT G uT sT iT' jT' ++ gC G uC iC' tC' sC)) args s 0 0 A = QQ
  unfold f_X2_readGood at hf
  refine lv_aload_n X.hx X.hb dX2_readGood_0 rfl (lv_at hl 0 rfl) ?_
  refine gf_X2_12 X hP 0 rfl (v := .ref (uC 0)) rfl dX2_readGood_1 ?_
  refine gf_X2_110 X hP 4 rfl (v := .int (iC 1)) rfl dX2_readGood_4 ?_
  refine lv_iconst (v := 5) X.hx X.hb dX2_readGood_7 (by decide) ?_
  refine lv_icmp_lt (tgt := 20) X.hx X.hb dX2_readGood_8 (by decide) (fun hc_1 => ?_) (fun hc_1 => ?_)
  · replace hf := if_t hf hc_1
    refine lv_aload_n X.hx X.hb dX2_readGood_20 rfl (lv_at hl 0 rfl) ?_
    refine gf_X2_18 X hP 0 rfl (v := .ref (uT 0)) rfl dX2_readGood_21 ?_
    obtain ⟨⟨iT_2, jT_3⟩, hc_4, hf⟩ := bd_i hf
    refine r_bvv (gR G uR (uT 0) (uC 0) iR) (gC G uC iC tC sC) (As := []) (rest := []) X sm_X2_97 (c_X8_next l G N uT sT iT jT hc_4) hP hD hS hA (by simp only [List.append_assoc, List.append_nil, List.nil_append]) (wo := (gR G uR (uT 0) (uC 0) iR ++ gT G uT sT iT_2 jT_3 ++ gC G uC iC tC sC)) (by simp only [List.append_assoc, List.append_nil, List.nil_append]) 0 rfl rfl rfl hl.1 (lv_room (Nat.le_of_ble_eq_true rfl)) ⟨Nat.le_of_ble_eq_true rfl, Nat.le_of_ble_eq_true rfl⟩ ⟨Nat.zero_le _, Nat.zero_le _⟩ dX2_readGood_24 (fun H locs hP hD hS => ?_)
    refine lv_aload_n X.hx X.hb dX2_readGood_27 rfl (lv_at hl 0 rfl) ?_
    refine lv_bipush (v := 7) X.hx X.hb dX2_readGood_28 (by decide) ?_
    refine lv_aload_n X.hx X.hb dX2_readGood_30 rfl (lv_at hl 0 rfl) ?_
    refine gf_X2_12 X hP 0 rfl (v := .ref (uC 0)) rfl dX2_readGood_31 ?_
    refine gf_X2_110 X hP 4 rfl (v := .int (iC 1)) rfl dX2_readGood_34 ?_
    refine lv_iadd X.hx X.hb dX2_readGood_37 ?_
    obtain ⟨⟨r_5, iT_6, jT_7, tC_8⟩, hc_9, hf⟩ := bd_i hf
    refine r_wvi (As := [.int ((7 : Int32) + (iC 1))]) (rest := []) X sm_X2_100 (c_X2_passNewName l G N uR uT uC iR sT iT_2 jT_3 iC tC sC ((7 : Int32) + (iC 1)) hc_9) hP hD hS hA 0 rfl rfl rfl hl.1 (lv_room (Nat.le_of_ble_eq_true rfl)) ⟨Nat.le_of_ble_eq_true rfl, Nat.le_of_ble_eq_true rfl⟩ ⟨Nat.zero_le _, Nat.zero_le _⟩ dX2_readGood_38 (fun H locs hP hD hS => ?_)
    refine lv_if_ne (tgt := 46) X.hx X.hb dX2_readGood_41 (by decide) (fun hc_10 => ?_) (fun hc_10 => ?_)
    · replace hf := if_f hf hc_10
      refine lv_aload_n X.hx X.hb dX2_readGood_46 rfl (lv_at hl 0 rfl) ?_
      refine gf_X2_12 X hP 0 rfl (v := .ref (uC 0)) rfl dX2_readGood_47 ?_
      refine lv_dup X.hx X.hb dX2_readGood_50 rfl ?_
      refine gf_X2_110 X hP 4 rfl (v := .int (iC 1)) rfl dX2_readGood_51 ?_
      refine lv_iconst (v := 1) X.hx X.hb dX2_readGood_54 (by decide) ?_
      refine lv_iadd X.hx X.hb dX2_readGood_55 ?_
      refine pf_X2_110 X hP hD hS 4 rfl rfl rfl (Nat.le_of_ble_eq_true rfl) (wo := (gR G uR (uT 0) (uC 0) iR ++ gT G uT sT iT_6 jT_7 ++ gC G uC (va_up iC 1 ((iC 1) + 1)) tC_8 sC)) rfl dX2_readGood_56 (fun H locs hP hD hS => ?_)
      refine lv_iconst (v := 1) X.hx X.hb dX2_readGood_59 (by decide) ?_
      cases hf
      subst hQ
      exact r_zret X hP hD hS (by decide) dX2_readGood_60
    · replace hf := if_t hf hc_10
      refine lv_iconst (v := 0) X.hx X.hb dX2_readGood_44 (by decide) ?_
      cases hf
      subst hQ
      exact r_zret X hP hD hS (by decide) dX2_readGood_45
  · replace hf := if_f hf hc_1
    refine lv_aload_n X.hx X.hb dX2_readGood_11 rfl (lv_at hl 0 rfl) ?_
    refine gf_X2_18 X hP 0 rfl (v := .ref (uT 0)) rfl dX2_readGood_12 ?_
    refine lv_iconst (v := 4) X.hx X.hb dX2_readGood_15 (by decide) ?_
    obtain ⟨⟨r_11, iT_12⟩, hc_13, hf⟩ := bd_i hf
    refine r_bvi (gR G uR (uT 0) (uC 0) iR) (gC G uC iC tC sC) (As := [.int 4]) (rest := []) X sm_X2_91 (c_X8_refuse l G N uT sT iT jT 4 hc_13) hP hD hS hA (by simp only [List.append_assoc, List.append_nil, List.nil_append]) (wo := (gR G uR (uT 0) (uC 0) iR ++ gT G uT sT iT_12 jT ++ gC G uC iC tC sC)) (by simp only [List.append_assoc, List.append_nil, List.nil_append]) 0 rfl rfl rfl hl.1 (lv_room (Nat.le_of_ble_eq_true rfl)) ⟨Nat.le_of_ble_eq_true rfl, Nat.le_of_ble_eq_true rfl⟩ ⟨Nat.zero_le _, Nat.zero_le _⟩ dX2_readGood_16 (fun H locs hP hD hS => ?_)
    obtain ⟨hb_14, hf⟩ := zb_i hf
    cases hf
    subst hQ
    exact r_zret X hP hD hS hb_14 dX2_readGood_19

def f_X2_passNewCell (N : Nat) (iR : Nat → Int32) (sT : Nat → Nat → Int32) (iT : Nat → Int32) (jT : Nat → Int64) (iC : Nat → Int32) (tC : Nat → Nat → Int64) (sC : Nat → Nat → Int32) : Option (Int32 × (Nat → Int32) × (Nat → Int64)) :=
  bd (f_X8_next N sT iT jT) (fun (iT_1, jT_2) => bd (f_X8_passPerson N sT iT_1 jT_2 iC tC sC) (fun (r_4, iT_5, jT_6) => (if r_4 = (-1) then some ((-1), iT_5, jT_6) else bd (f_X8_goodHere N sT iT_5 jT_6 iC tC sC) (fun (r_9, iT_10) => (if r_9 = (-1) then some ((-1), iT_10, jT_6) else bd (f_X1_sellsOrWants N iC tC sC r_4 r_9) (fun r_13 => (if r_13 = 0 then bd (f_X8_next N sT iT_10 jT_6) (fun (iT_16, jT_17) => bd (f_X10_cellOf N r_4 r_9) (fun r_19 => some (r_19, iT_16, jT_17))) else bd (f_X8_refuse N sT iT_10 jT_6 3) (fun (r_21, iT_22) => some ((-1), iT_22, jT_6)))))))))
set_option maxHeartbeats 4000000 in
set_option maxRecDepth 100000 in
theorem c_X2_passNewCell (l : Launch) (G : GT) (N : Nat) (uR uT uC : Nat → Nat) (iR : Nat → Int32) (sT : Nat → Nat → Int32) (iT : Nat → Int32) (jT : Nat → Int64) (iC : Nat → Int32) (tC : Nat → Nat → Int64) (sC : Nat → Nat → Int32) {r : Int32} {iT' : Nat → Int32} {jT' : Nat → Int64} (hf : f_X2_passNewCell N iR sT iT jT iC tC sC = some (r, iT', jT')) : CI l G yX2_passNewCell cX2_passNewCell 3 .int 4 [.ref (uR 0)] (gR G uR (uT 0) (uC 0) iR ++ gT G uT sT iT jT ++ gC G uC iC tC sC) r (gR G uR (uT 0) (uC 0) iR ++ gT G uT sT iT' jT' ++ gC G uC iC tC sC) := by
  refine CI.of (by decide) (Nat.le_of_ble_eq_true rfl) ?_
  intro p e s m args below meth c A X hA hP hD hS ls hl
  have hl : lv_has ls 3 [(0, .ref (uR 0))] := hl
  generalize hQ : MQ below (QI G A r (gR G uR (uT 0) (uC 0) iR ++ gT G uT sT iT' jT' ++ gC G uC iC tC sC)) args s 0 0 A = QQ
  unfold f_X2_passNewCell at hf
  refine lv_aload_n X.hx X.hb dX2_passNewCell_0 rfl (lv_at hl 0 rfl) ?_
  refine gf_X2_18 X hP 0 rfl (v := .ref (uT 0)) rfl dX2_passNewCell_1 ?_
  obtain ⟨⟨iT_1, jT_2⟩, hc_3, hf⟩ := bd_i hf
  refine r_bvv (gR G uR (uT 0) (uC 0) iR) (gC G uC iC tC sC) (As := []) (rest := []) X sm_X2_97 (c_X8_next l G N uT sT iT jT hc_3) hP hD hS hA (by simp only [List.append_assoc, List.append_nil, List.nil_append]) (wo := (gR G uR (uT 0) (uC 0) iR ++ gT G uT sT iT_1 jT_2 ++ gC G uC iC tC sC)) (by simp only [List.append_assoc, List.append_nil, List.nil_append]) 0 rfl rfl rfl hl.1 (lv_room (Nat.le_of_ble_eq_true rfl)) ⟨Nat.le_of_ble_eq_true rfl, Nat.le_of_ble_eq_true rfl⟩ ⟨Nat.zero_le _, Nat.zero_le _⟩ dX2_passNewCell_4 (fun H locs hP hD hS => ?_)
  refine lv_aload_n X.hx X.hb dX2_passNewCell_7 rfl (lv_at hl 0 rfl) ?_
  refine gf_X2_18 X hP 0 rfl (v := .ref (uT 0)) rfl dX2_passNewCell_8 ?_
  refine lv_aload_n X.hx X.hb dX2_passNewCell_11 rfl (lv_at hl 0 rfl) ?_
  refine gf_X2_12 X hP 0 rfl (v := .ref (uC 0)) rfl dX2_passNewCell_12 ?_
  obtain ⟨⟨r_4, iT_5, jT_6⟩, hc_7, hf⟩ := bd_i hf
  refine r_bvi (gR G uR (uT 0) (uC 0) iR) ([] : va_W) (As := [.ref (uC 0)]) (rest := []) X sm_X2_141 (c_X8_passPerson l G N uT uC sT iT_1 jT_2 iC tC sC hc_7) hP hD hS hA (by simp only [List.append_assoc, List.append_nil, List.nil_append]) (wo := (gR G uR (uT 0) (uC 0) iR ++ gT G uT sT iT_5 jT_6 ++ gC G uC iC tC sC)) (by simp only [List.append_assoc, List.append_nil, List.nil_append]) 0 rfl rfl rfl hl.1 (lv_room (Nat.le_of_ble_eq_true rfl)) ⟨Nat.le_of_ble_eq_true rfl, Nat.le_of_ble_eq_true rfl⟩ ⟨Nat.zero_le _, Nat.zero_le _⟩ dX2_passNewCell_15 (fun H locs hP hD hS => ?_)
  refine lv_istore_n (lv' := [(1, .int r_4), (0, .ref (uR 0))]) X.hx X.hb dX2_passNewCell_18 rfl hl (by decide) rfl (fun ls hl => ?_)
  refine lv_iload_n X.hx X.hb dX2_passNewCell_19 rfl (lv_at hl 0 rfl) ?_
  refine lv_iconst (v := (-1)) X.hx X.hb dX2_passNewCell_20 (by decide) ?_
  refine lv_icmp_ne (tgt := 26) X.hx X.hb dX2_passNewCell_21 (by decide) (fun hc_8 => ?_) (fun hc_8 => ?_)
  · replace hf := if_f hf hc_8
    refine lv_aload_n X.hx X.hb dX2_passNewCell_26 rfl (lv_at hl 1 rfl) ?_
    refine gf_X2_18 X hP 0 rfl (v := .ref (uT 0)) rfl dX2_passNewCell_27 ?_
    refine lv_aload_n X.hx X.hb dX2_passNewCell_30 rfl (lv_at hl 1 rfl) ?_
    refine gf_X2_12 X hP 0 rfl (v := .ref (uC 0)) rfl dX2_passNewCell_31 ?_
    obtain ⟨⟨r_9, iT_10⟩, hc_11, hf⟩ := bd_i hf
    refine r_bvi (gR G uR (uT 0) (uC 0) iR) ([] : va_W) (As := [.ref (uC 0)]) (rest := []) X sm_X2_145 (c_X8_goodHere l G N uT uC sT iT_5 jT_6 iC tC sC hc_11) hP hD hS hA (by simp only [List.append_assoc, List.append_nil, List.nil_append]) (wo := (gR G uR (uT 0) (uC 0) iR ++ gT G uT sT iT_10 jT_6 ++ gC G uC iC tC sC)) (by simp only [List.append_assoc, List.append_nil, List.nil_append]) 0 rfl rfl rfl hl.1 (lv_room (Nat.le_of_ble_eq_true rfl)) ⟨Nat.le_of_ble_eq_true rfl, Nat.le_of_ble_eq_true rfl⟩ ⟨Nat.zero_le _, Nat.zero_le _⟩ dX2_passNewCell_34 (fun H locs hP hD hS => ?_)
    refine lv_istore_n (lv' := [(2, .int r_9), (1, .int r_4), (0, .ref (uR 0))]) X.hx X.hb dX2_passNewCell_37 rfl hl (by decide) rfl (fun ls hl => ?_)
    refine lv_iload_n X.hx X.hb dX2_passNewCell_38 rfl (lv_at hl 0 rfl) ?_
    refine lv_iconst (v := (-1)) X.hx X.hb dX2_passNewCell_39 (by decide) ?_
    refine lv_icmp_ne (tgt := 45) X.hx X.hb dX2_passNewCell_40 (by decide) (fun hc_12 => ?_) (fun hc_12 => ?_)
    · replace hf := if_f hf hc_12
      refine lv_aload_n X.hx X.hb dX2_passNewCell_45 rfl (lv_at hl 2 rfl) ?_
      refine gf_X2_12 X hP 0 rfl (v := .ref (uC 0)) rfl dX2_passNewCell_46 ?_
      refine lv_iload_n X.hx X.hb dX2_passNewCell_49 rfl (lv_at hl 1 rfl) ?_
      refine lv_iload_n X.hx X.hb dX2_passNewCell_50 rfl (lv_at hl 0 rfl) ?_
      obtain ⟨r_13, hc_14, hf⟩ := bd_i hf
      refine r_bvi (gR G uR (uT 0) (uC 0) iR ++ gT G uT sT iT_10 jT_6) ([] : va_W) (As := [.int r_4, .int r_9]) (rest := []) X sm_X2_148 (c_X1_sellsOrWants l G N uC iC tC sC r_4 r_9 hc_14) hP hD hS hA (by simp only [List.append_assoc, List.append_nil, List.nil_append]) (wo := (gR G uR (uT 0) (uC 0) iR ++ gT G uT sT iT_10 jT_6 ++ gC G uC iC tC sC)) (by simp only [List.append_assoc, List.append_nil, List.nil_append]) 0 rfl rfl rfl hl.1 (lv_room (Nat.le_of_ble_eq_true rfl)) ⟨Nat.le_of_ble_eq_true rfl, Nat.le_of_ble_eq_true rfl⟩ ⟨Nat.zero_le _, Nat.zero_le _⟩ dX2_passNewCell_51 (fun H locs hP hD hS => ?_)
      refine lv_if_eq (tgt := 68) X.hx X.hb dX2_passNewCell_54 (by decide) (fun hc_15 => ?_) (fun hc_15 => ?_)
      · replace hf := if_t hf hc_15
        refine lv_aload_n X.hx X.hb dX2_passNewCell_68 rfl (lv_at hl 2 rfl) ?_
        refine gf_X2_18 X hP 0 rfl (v := .ref (uT 0)) rfl dX2_passNewCell_69 ?_
        obtain ⟨⟨iT_16, jT_17⟩, hc_18, hf⟩ := bd_i hf
        refine r_bvv (gR G uR (uT 0) (uC 0) iR) (gC G uC iC tC sC) (As := []) (rest := []) X sm_X2_97 (c_X8_next l G N uT sT iT_10 jT_6 hc_18) hP hD hS hA (by simp only [List.append_assoc, List.append_nil, List.nil_append]) (wo := (gR G uR (uT 0) (uC 0) iR ++ gT G uT sT iT_16 jT_17 ++ gC G uC iC tC sC)) (by simp only [List.append_assoc, List.append_nil, List.nil_append]) 0 rfl rfl rfl hl.1 (lv_room (Nat.le_of_ble_eq_true rfl)) ⟨Nat.le_of_ble_eq_true rfl, Nat.le_of_ble_eq_true rfl⟩ ⟨Nat.zero_le _, Nat.zero_le _⟩ dX2_passNewCell_72 (fun H locs hP hD hS => ?_)
        refine lv_iload_n X.hx X.hb dX2_passNewCell_75 rfl (lv_at hl 1 rfl) ?_
        refine lv_iload_n X.hx X.hb dX2_passNewCell_76 rfl (lv_at hl 0 rfl) ?_
        obtain ⟨r_19, hc_20, hf⟩ := bd_i hf
        refine r_cn0 (As := [.int r_4, .int r_9]) (rest := []) X sm_X2_152 (c_X10_cellOf l G N r_4 r_9 hc_20) hP hD hS hA rfl hl.1 (lv_room (Nat.le_of_ble_eq_true rfl)) ⟨Nat.le_of_ble_eq_true rfl, Nat.le_of_ble_eq_true rfl⟩ ⟨Nat.zero_le _, Nat.zero_le _⟩ dX2_passNewCell_77 (fun H locs hP hD hS => ?_)
        cases hf
        subst hQ
        exact r_iret X hP hD hS dX2_passNewCell_80
      · replace hf := if_f hf hc_15
        refine lv_aload_n X.hx X.hb dX2_passNewCell_57 rfl (lv_at hl 2 rfl) ?_
        refine gf_X2_18 X hP 0 rfl (v := .ref (uT 0)) rfl dX2_passNewCell_58 ?_
        refine lv_iconst (v := 3) X.hx X.hb dX2_passNewCell_61 (by decide) ?_
        obtain ⟨⟨r_21, iT_22⟩, hc_23, hf⟩ := bd_i hf
        refine r_bvi (gR G uR (uT 0) (uC 0) iR) (gC G uC iC tC sC) (As := [.int 3]) (rest := []) X sm_X2_91 (c_X8_refuse l G N uT sT iT_10 jT_6 3 hc_23) hP hD hS hA (by simp only [List.append_assoc, List.append_nil, List.nil_append]) (wo := (gR G uR (uT 0) (uC 0) iR ++ gT G uT sT iT_22 jT_6 ++ gC G uC iC tC sC)) (by simp only [List.append_assoc, List.append_nil, List.nil_append]) 0 rfl rfl rfl hl.1 (lv_room (Nat.le_of_ble_eq_true rfl)) ⟨Nat.le_of_ble_eq_true rfl, Nat.le_of_ble_eq_true rfl⟩ ⟨Nat.zero_le _, Nat.zero_le _⟩ dX2_passNewCell_62 (fun H locs hP hD hS => ?_)
        refine lv_pop X.hx X.hb dX2_passNewCell_65 rfl ?_
        refine lv_iconst (v := (-1)) X.hx X.hb dX2_passNewCell_66 (by decide) ?_
        cases hf
        subst hQ
        exact r_iret X hP hD hS dX2_passNewCell_67
    · replace hf := if_t hf hc_12
      refine lv_iconst (v := (-1)) X.hx X.hb dX2_passNewCell_43 (by decide) ?_
      cases hf
      subst hQ
      exact r_iret X hP hD hS dX2_passNewCell_44
  · replace hf := if_t hf hc_8
    refine lv_iconst (v := (-1)) X.hx X.hb dX2_passNewCell_24 (by decide) ?_
    cases hf
    subst hQ
    exact r_iret X hP hD hS dX2_passNewCell_25

def f_X2_readSells (N : Nat) (iR : Nat → Int32) (sT : Nat → Nat → Int32) (iT : Nat → Int32) (jT : Nat → Int64) (iC : Nat → Int32) (tC : Nat → Nat → Int64) (sC : Nat → Nat → Int32) : Option (Int32 × (Nat → Int32) × (Nat → Int64) × (Nat → Nat → Int32)) :=
  bd (f_X2_passNewCell N iR sT iT jT iC tC sC) (fun (r_1, iT_2, jT_3) => (if r_1 = (-1) then some (0, iT_2, jT_3, sC) else bd (f_X8_passNumber N sT iT_2 jT_3 1 9) (fun (r_6, iT_7, jT_8) => (if r_6 = (-1) then some (0, iT_7, jT_8, sC) else ck r_1 35 (nv (upd (sC 6) (ix r_1) r_6) (fun g_12 => bd (f_X8_passNumber N sT iT_7 jT_8 0 20) (fun (r_13, iT_14, jT_15) => ck r_1 35 (nv (upd (sC 8) (ix r_1) r_13) (fun g_18 => ck r_1 35 ((if (g_18 (ix r_1)) = (-1) then some (0, iT_14, jT_15, (va_up (va_up sC 6 g_12) 8 g_18)) else some (1, iT_14, jT_15, (va_up (va_up sC 6 g_12) 8 g_18)))))))))))))
set_option maxHeartbeats 4000000 in
set_option maxRecDepth 100000 in
theorem c_X2_readSells (l : Launch) (G : GT) (N : Nat) (uR uT uC : Nat → Nat) (iR : Nat → Int32) (sT : Nat → Nat → Int32) (iT : Nat → Int32) (jT : Nat → Int64) (iC : Nat → Int32) (tC : Nat → Nat → Int64) (sC : Nat → Nat → Int32) {r : Int32} {iT' : Nat → Int32} {jT' : Nat → Int64} {sC' : Nat → Nat → Int32} (hf : f_X2_readSells N iR sT iT jT iC tC sC = some (r, iT', jT', sC')) : CI l G yX2_readSells cX2_readSells 3 .boolean 5 [.ref (uR 0)] (gR G uR (uT 0) (uC 0) iR ++ gT G uT sT iT jT ++ gC G uC iC tC sC) r (gR G uR (uT 0) (uC 0) iR ++ gT G uT sT iT' jT' ++ gC G uC iC tC sC') := by
  refine CI.of (by decide) (Nat.le_of_ble_eq_true rfl) ?_
  intro p e s m args below meth c A X hA hP hD hS ls hl
  have hl : lv_has ls 3 [(0, .ref (uR 0))] := hl
  generalize hQ : MQ below (QI G A r (gR G uR (uT 0) (uC 0) iR ++ gT G uT sT iT' jT' ++ gC G uC iC tC sC')) args s 0 0 A = QQ
  unfold f_X2_readSells at hf
  refine lv_aload_n X.hx X.hb dX2_readSells_0 rfl (lv_at hl 0 rfl) ?_
  obtain ⟨⟨r_1, iT_2, jT_3⟩, hc_4, hf⟩ := bd_i hf
  refine r_wvi (As := []) (rest := []) X sm_X2_128 (c_X2_passNewCell l G N uR uT uC iR sT iT jT iC tC sC hc_4) hP hD hS hA 0 rfl rfl rfl hl.1 (lv_room (Nat.le_of_ble_eq_true rfl)) ⟨Nat.le_of_ble_eq_true rfl, Nat.le_of_ble_eq_true rfl⟩ ⟨Nat.zero_le _, Nat.zero_le _⟩ dX2_readSells_1 (fun H locs hP hD hS => ?_)
  refine lv_istore_n (lv' := [(1, .int r_1), (0, .ref (uR 0))]) X.hx X.hb dX2_readSells_4 rfl hl (by decide) rfl (fun ls hl => ?_)
  refine lv_iload_n X.hx X.hb dX2_readSells_5 rfl (lv_at hl 0 rfl) ?_
  refine lv_iconst (v := (-1)) X.hx X.hb dX2_readSells_6 (by decide) ?_
  refine lv_icmp_ne (tgt := 12) X.hx X.hb dX2_readSells_7 (by decide) (fun hc_5 => ?_) (fun hc_5 => ?_)
  · replace hf := if_f hf hc_5
    refine lv_aload_n X.hx X.hb dX2_readSells_12 rfl (lv_at hl 1 rfl) ?_
    refine gf_X2_18 X hP 0 rfl (v := .ref (uT 0)) rfl dX2_readSells_13 ?_
    refine lv_iconst (v := 1) X.hx X.hb dX2_readSells_16 (by decide) ?_
    refine lv_bipush (v := 9) X.hx X.hb dX2_readSells_17 (by decide) ?_
    obtain ⟨⟨r_6, iT_7, jT_8⟩, hc_9, hf⟩ := bd_i hf
    refine r_bvi (gR G uR (uT 0) (uC 0) iR) (gC G uC iC tC sC) (As := [.int 1, .int 9]) (rest := []) X sm_X2_103 (c_X8_passNumber l G N uT sT iT_2 jT_3 1 9 hc_9) hP hD hS hA (by simp only [List.append_assoc, List.append_nil, List.nil_append]) (wo := (gR G uR (uT 0) (uC 0) iR ++ gT G uT sT iT_7 jT_8 ++ gC G uC iC tC sC)) (by simp only [List.append_assoc, List.append_nil, List.nil_append]) 0 rfl rfl rfl hl.1 (lv_room (Nat.le_of_ble_eq_true rfl)) ⟨Nat.le_of_ble_eq_true rfl, Nat.le_of_ble_eq_true rfl⟩ ⟨Nat.zero_le _, Nat.zero_le _⟩ dX2_readSells_19 (fun H locs hP hD hS => ?_)
    refine lv_istore_n (lv' := [(2, .int r_6), (1, .int r_1), (0, .ref (uR 0))]) X.hx X.hb dX2_readSells_22 rfl hl (by decide) rfl (fun ls hl => ?_)
    refine lv_iload_n X.hx X.hb dX2_readSells_23 rfl (lv_at hl 0 rfl) ?_
    refine lv_iconst (v := (-1)) X.hx X.hb dX2_readSells_24 (by decide) ?_
    refine lv_icmp_ne (tgt := 30) X.hx X.hb dX2_readSells_25 (by decide) (fun hc_10 => ?_) (fun hc_10 => ?_)
    · replace hf := if_f hf hc_10
      refine lv_aload_n X.hx X.hb dX2_readSells_30 rfl (lv_at hl 2 rfl) ?_
      refine gf_X2_12 X hP 0 rfl (v := .ref (uC 0)) rfl dX2_readSells_31 ?_
      refine gf_X2_132 X hP 4 rfl (v := .ref (uC 7)) rfl dX2_readSells_34 ?_
      refine lv_iload_n X.hx X.hb dX2_readSells_37 rfl (lv_at hl 1 rfl) ?_
      refine lv_iload_n X.hx X.hb dX2_readSells_38 rfl (lv_at hl 0 rfl) ?_
      obtain ⟨hi_11, hf⟩ := ck_i hf
      obtain ⟨g_12, eg_12, hf⟩ := nv_i hf
      refine r_iast X hP hD hS 9 (f := (sC 6)) rfl hi_11 (wo := (gR G uR (uT 0) (uC 0) iR ++ gT G uT sT iT_7 jT_8 ++ gC G uC iC tC (va_up sC 6 g_12))) (by subst eg_12; rfl) dX2_readSells_39 (fun H locs hP hD hS => ?_)
      refine lv_aload_n X.hx X.hb dX2_readSells_40 rfl (lv_at hl 2 rfl) ?_
      refine gf_X2_12 X hP 0 rfl (v := .ref (uC 0)) rfl dX2_readSells_41 ?_
      refine gf_X2_135 X hP 4 rfl (v := .ref (uC 9)) rfl dX2_readSells_44 ?_
      refine lv_iload_n X.hx X.hb dX2_readSells_47 rfl (lv_at hl 1 rfl) ?_
      refine lv_aload_n X.hx X.hb dX2_readSells_48 rfl (lv_at hl 2 rfl) ?_
      refine gf_X2_18 X hP 0 rfl (v := .ref (uT 0)) rfl dX2_readSells_49 ?_
      refine lv_iconst (v := 0) X.hx X.hb dX2_readSells_52 (by decide) ?_
      refine lv_bipush (v := 20) X.hx X.hb dX2_readSells_53 (by decide) ?_
      obtain ⟨⟨r_13, iT_14, jT_15⟩, hc_16, hf⟩ := bd_i hf
      refine r_bvi (gR G uR (uT 0) (uC 0) iR) (gC G uC iC tC (va_up sC 6 g_12)) (As := [.int 0, .int 20]) (rest := [.int r_1, .ref (uC 9)]) X sm_X2_103 (c_X8_passNumber l G N uT sT iT_7 jT_8 0 20 hc_16) hP hD hS hA (by simp only [List.append_assoc, List.append_nil, List.nil_append]) (wo := (gR G uR (uT 0) (uC 0) iR ++ gT G uT sT iT_14 jT_15 ++ gC G uC iC tC (va_up sC 6 g_12))) (by simp only [List.append_assoc, List.append_nil, List.nil_append]) 0 rfl rfl rfl hl.1 (lv_room (Nat.le_of_ble_eq_true rfl)) ⟨Nat.le_of_ble_eq_true rfl, Nat.le_of_ble_eq_true rfl⟩ ⟨Nat.zero_le _, Nat.zero_le _⟩ dX2_readSells_55 (fun H locs hP hD hS => ?_)
      obtain ⟨hi_17, hf⟩ := ck_i hf
      obtain ⟨g_18, eg_18, hf⟩ := nv_i hf
      refine r_iast X hP hD hS 11 (f := (sC 8)) rfl hi_17 (wo := (gR G uR (uT 0) (uC 0) iR ++ gT G uT sT iT_14 jT_15 ++ gC G uC iC tC (va_up (va_up sC 6 g_12) 8 g_18))) (by subst eg_18; rfl) dX2_readSells_58 (fun H locs hP hD hS => ?_)
      refine lv_aload_n X.hx X.hb dX2_readSells_59 rfl (lv_at hl 2 rfl) ?_
      refine gf_X2_12 X hP 0 rfl (v := .ref (uC 0)) rfl dX2_readSells_60 ?_
      refine gf_X2_135 X hP 4 rfl (v := .ref (uC 9)) rfl dX2_readSells_63 ?_
      refine lv_iload_n X.hx X.hb dX2_readSells_66 rfl (lv_at hl 1 rfl) ?_
      obtain ⟨hi_19, hf⟩ := ck_i hf
      refine r_iald X hP 11 (f := g_18) rfl hi_19 dX2_readSells_67 ?_
      refine lv_iconst (v := (-1)) X.hx X.hb dX2_readSells_68 (by decide) ?_
      refine lv_icmp_eq (tgt := 76) X.hx X.hb dX2_readSells_69 (by decide) (fun hc_20 => ?_) (fun hc_20 => ?_)
      · replace hf := if_t hf hc_20
        refine lv_iconst (v := 0) X.hx X.hb dX2_readSells_76 (by decide) ?_
        cases hf
        subst hQ
        exact r_zret X hP hD hS (by decide) dX2_readSells_77
      · replace hf := if_f hf hc_20
        refine lv_iconst (v := 1) X.hx X.hb dX2_readSells_72 (by decide) ?_
        refine lv_goto (tgt := 77) X.hx X.hb dX2_readSells_73 (by decide) ?_
        cases hf
        subst hQ
        exact r_zret X hP hD hS (by decide) dX2_readSells_77
    · replace hf := if_t hf hc_10
      refine lv_iconst (v := 0) X.hx X.hb dX2_readSells_28 (by decide) ?_
      cases hf
      subst hQ
      exact r_zret X hP hD hS (by decide) dX2_readSells_29
  · replace hf := if_t hf hc_5
    refine lv_iconst (v := 0) X.hx X.hb dX2_readSells_10 (by decide) ?_
    cases hf
    subst hQ
    exact r_zret X hP hD hS (by decide) dX2_readSells_11

def f_X2_readWants (N : Nat) (iR : Nat → Int32) (sT : Nat → Nat → Int32) (iT : Nat → Int32) (jT : Nat → Int64) (iC : Nat → Int32) (tC : Nat → Nat → Int64) (sC : Nat → Nat → Int32) : Option (Int32 × (Nat → Int32) × (Nat → Int64) × (Nat → Nat → Int32)) :=
  bd (f_X2_passNewCell N iR sT iT jT iC tC sC) (fun (r_1, iT_2, jT_3) => (if r_1 = (-1) then some (0, iT_2, jT_3, sC) else bd (f_X8_passNumber N sT iT_2 jT_3 1 9) (fun (r_6, iT_7, jT_8) => (if r_6 = (-1) then some (0, iT_7, jT_8, sC) else ck r_1 35 (nv (upd (sC 7) (ix r_1) r_6) (fun g_12 => some (1, iT_7, jT_8, (va_up sC 7 g_12))))))))
set_option maxHeartbeats 4000000 in
set_option maxRecDepth 100000 in
theorem c_X2_readWants (l : Launch) (G : GT) (N : Nat) (uR uT uC : Nat → Nat) (iR : Nat → Int32) (sT : Nat → Nat → Int32) (iT : Nat → Int32) (jT : Nat → Int64) (iC : Nat → Int32) (tC : Nat → Nat → Int64) (sC : Nat → Nat → Int32) {r : Int32} {iT' : Nat → Int32} {jT' : Nat → Int64} {sC' : Nat → Nat → Int32} (hf : f_X2_readWants N iR sT iT jT iC tC sC = some (r, iT', jT', sC')) : CI l G yX2_readWants cX2_readWants 3 .boolean 5 [.ref (uR 0)] (gR G uR (uT 0) (uC 0) iR ++ gT G uT sT iT jT ++ gC G uC iC tC sC) r (gR G uR (uT 0) (uC 0) iR ++ gT G uT sT iT' jT' ++ gC G uC iC tC sC') := by
  refine CI.of (by decide) (Nat.le_of_ble_eq_true rfl) ?_
  intro p e s m args below meth c A X hA hP hD hS ls hl
  have hl : lv_has ls 3 [(0, .ref (uR 0))] := hl
  generalize hQ : MQ below (QI G A r (gR G uR (uT 0) (uC 0) iR ++ gT G uT sT iT' jT' ++ gC G uC iC tC sC')) args s 0 0 A = QQ
  unfold f_X2_readWants at hf
  refine lv_aload_n X.hx X.hb dX2_readWants_0 rfl (lv_at hl 0 rfl) ?_
  obtain ⟨⟨r_1, iT_2, jT_3⟩, hc_4, hf⟩ := bd_i hf
  refine r_wvi (As := []) (rest := []) X sm_X2_128 (c_X2_passNewCell l G N uR uT uC iR sT iT jT iC tC sC hc_4) hP hD hS hA 0 rfl rfl rfl hl.1 (lv_room (Nat.le_of_ble_eq_true rfl)) ⟨Nat.le_of_ble_eq_true rfl, Nat.le_of_ble_eq_true rfl⟩ ⟨Nat.zero_le _, Nat.zero_le _⟩ dX2_readWants_1 (fun H locs hP hD hS => ?_)
  refine lv_istore_n (lv' := [(1, .int r_1), (0, .ref (uR 0))]) X.hx X.hb dX2_readWants_4 rfl hl (by decide) rfl (fun ls hl => ?_)
  refine lv_iload_n X.hx X.hb dX2_readWants_5 rfl (lv_at hl 0 rfl) ?_
  refine lv_iconst (v := (-1)) X.hx X.hb dX2_readWants_6 (by decide) ?_
  refine lv_icmp_ne (tgt := 12) X.hx X.hb dX2_readWants_7 (by decide) (fun hc_5 => ?_) (fun hc_5 => ?_)
  · replace hf := if_f hf hc_5
    refine lv_aload_n X.hx X.hb dX2_readWants_12 rfl (lv_at hl 1 rfl) ?_
    refine gf_X2_18 X hP 0 rfl (v := .ref (uT 0)) rfl dX2_readWants_13 ?_
    refine lv_iconst (v := 1) X.hx X.hb dX2_readWants_16 (by decide) ?_
    refine lv_bipush (v := 9) X.hx X.hb dX2_readWants_17 (by decide) ?_
    obtain ⟨⟨r_6, iT_7, jT_8⟩, hc_9, hf⟩ := bd_i hf
    refine r_bvi (gR G uR (uT 0) (uC 0) iR) (gC G uC iC tC sC) (As := [.int 1, .int 9]) (rest := []) X sm_X2_103 (c_X8_passNumber l G N uT sT iT_2 jT_3 1 9 hc_9) hP hD hS hA (by simp only [List.append_assoc, List.append_nil, List.nil_append]) (wo := (gR G uR (uT 0) (uC 0) iR ++ gT G uT sT iT_7 jT_8 ++ gC G uC iC tC sC)) (by simp only [List.append_assoc, List.append_nil, List.nil_append]) 0 rfl rfl rfl hl.1 (lv_room (Nat.le_of_ble_eq_true rfl)) ⟨Nat.le_of_ble_eq_true rfl, Nat.le_of_ble_eq_true rfl⟩ ⟨Nat.zero_le _, Nat.zero_le _⟩ dX2_readWants_19 (fun H locs hP hD hS => ?_)
    refine lv_istore_n (lv' := [(2, .int r_6), (1, .int r_1), (0, .ref (uR 0))]) X.hx X.hb dX2_readWants_22 rfl hl (by decide) rfl (fun ls hl => ?_)
    refine lv_iload_n X.hx X.hb dX2_readWants_23 rfl (lv_at hl 0 rfl) ?_
    refine lv_iconst (v := (-1)) X.hx X.hb dX2_readWants_24 (by decide) ?_
    refine lv_icmp_ne (tgt := 30) X.hx X.hb dX2_readWants_25 (by decide) (fun hc_10 => ?_) (fun hc_10 => ?_)
    · replace hf := if_f hf hc_10
      refine lv_aload_n X.hx X.hb dX2_readWants_30 rfl (lv_at hl 2 rfl) ?_
      refine gf_X2_12 X hP 0 rfl (v := .ref (uC 0)) rfl dX2_readWants_31 ?_
      refine gf_X2_138 X hP 4 rfl (v := .ref (uC 8)) rfl dX2_readWants_34 ?_
      refine lv_iload_n X.hx X.hb dX2_readWants_37 rfl (lv_at hl 1 rfl) ?_
      refine lv_iload_n X.hx X.hb dX2_readWants_38 rfl (lv_at hl 0 rfl) ?_
      obtain ⟨hi_11, hf⟩ := ck_i hf
      obtain ⟨g_12, eg_12, hf⟩ := nv_i hf
      refine r_iast X hP hD hS 10 (f := (sC 7)) rfl hi_11 (wo := (gR G uR (uT 0) (uC 0) iR ++ gT G uT sT iT_7 jT_8 ++ gC G uC iC tC (va_up sC 7 g_12))) (by subst eg_12; rfl) dX2_readWants_39 (fun H locs hP hD hS => ?_)
      refine lv_iconst (v := 1) X.hx X.hb dX2_readWants_40 (by decide) ?_
      cases hf
      subst hQ
      exact r_zret X hP hD hS (by decide) dX2_readWants_41
    · replace hf := if_t hf hc_10
      refine lv_iconst (v := 0) X.hx X.hb dX2_readWants_28 (by decide) ?_
      cases hf
      subst hQ
      exact r_zret X hP hD hS (by decide) dX2_readWants_29
  · replace hf := if_t hf hc_5
    refine lv_iconst (v := 0) X.hx X.hb dX2_readWants_10 (by decide) ?_
    cases hf
    subst hQ
    exact r_zret X hP hD hS (by decide) dX2_readWants_11

def f_X2_readPair_4 (N : Nat) (iR : Nat → Int32) (sT : Nat → Nat → Int32) (iT : Nat → Int32) (jT : Nat → Int64) (iC : Nat → Int32) (tC : Nat → Nat → Int64) (sC : Nat → Nat → Int32) : Option (Int32 × (Nat → Int32) × (Nat → Int64) × (Nat → Nat → Int32)) :=
  bd (f_X8_next N sT iT jT) (fun (iT_1, jT_2) => bd (f_X8_passPerson N sT iT_1 jT_2 iC tC sC) (fun (r_4, iT_5, jT_6) => (if r_4 = (-1) then some (0, iT_5, jT_6, sC) else bd (f_X8_personHere N sT iT_5 jT_6 iC tC sC) (fun (r_9, iT_10) => (if r_9 = (-1) then some (0, iT_10, jT_6, sC) else jn (fun (z : Unit) => match z with | () => bd (f_X8_refuse N sT iT_10 jT_6 3) (fun (r_16, iT_17) => zb r_16 (some (r_16, iT_17, jT_6, sC)))) (fun K_13 => (if r_4 = r_9 then K_13 () else ck r_4 7 (bd (f_X10_has N ((sC 4) (ix r_4)) r_9) (fun r_22 => (if r_22 = 0 then ck r_4 7 (ck r_4 7 (nv (upd (sC 4) (ix r_4) (((sC 4) (ix r_4)) ||| ((1 : Int32) <<< (r_9 &&& 31)))) (fun g_27 => ck r_9 7 (ck r_9 7 (nv (upd g_27 (ix r_9) ((g_27 (ix r_9)) ||| ((1 : Int32) <<< (r_4 &&& 31)))) (fun g_30 => bd (f_X8_next N sT iT_10 jT_6) (fun (iT_31, jT_32) => some (1, iT_31, jT_32, (va_up sC 4 g_30))))))))) else K_13 ()))))))))))
set_option maxHeartbeats 4000000 in
set_option maxRecDepth 100000 in
theorem c_X2_readPair_4 (l : Launch) (G : GT) (N : Nat) (uR uT uC : Nat → Nat) (iR : Nat → Int32) (sT : Nat → Nat → Int32) (iT : Nat → Int32) (jT : Nat → Int64) (iC : Nat → Int32) (tC : Nat → Nat → Int64) (sC : Nat → Nat → Int32) {r : Int32} {iT' : Nat → Int32} {jT' : Nat → Int64} {sC' : Nat → Nat → Int32} (hf : f_X2_readPair_4 N iR sT iT jT iC tC sC = some (r, iT', jT', sC')) : CI l G yX2_readPair cX2_readPair 4 .boolean 4 [.ref (uR 0), .ref (uC 5)] (gR G uR (uT 0) (uC 0) iR ++ gT G uT sT iT jT ++ gC G uC iC tC sC) r (gR G uR (uT 0) (uC 0) iR ++ gT G uT sT iT' jT' ++ gC G uC iC tC sC') := by
  refine CI.of (by decide) (Nat.le_of_ble_eq_true rfl) ?_
  intro p e s m args below meth c A X hA hP hD hS ls hl
  have hl : lv_has ls 4 [(0, .ref (uR 0)), (1, .ref (uC 5))] := hl
  generalize hQ : MQ below (QI G A r (gR G uR (uT 0) (uC 0) iR ++ gT G uT sT iT' jT' ++ gC G uC iC tC sC')) args s 0 0 A = QQ
  unfold f_X2_readPair_4 at hf
  refine lv_aload_n X.hx X.hb dX2_readPair_0 rfl (lv_at hl 0 rfl) ?_
  refine gf_X2_18 X hP 0 rfl (v := .ref (uT 0)) rfl dX2_readPair_1 ?_
  obtain ⟨⟨iT_1, jT_2⟩, hc_3, hf⟩ := bd_i hf
  refine r_bvv (gR G uR (uT 0) (uC 0) iR) (gC G uC iC tC sC) (As := []) (rest := []) X sm_X2_97 (c_X8_next l G N uT sT iT jT hc_3) hP hD hS hA (by simp only [List.append_assoc, List.append_nil, List.nil_append]) (wo := (gR G uR (uT 0) (uC 0) iR ++ gT G uT sT iT_1 jT_2 ++ gC G uC iC tC sC)) (by simp only [List.append_assoc, List.append_nil, List.nil_append]) 0 rfl rfl rfl hl.1 (lv_room (Nat.le_of_ble_eq_true rfl)) ⟨Nat.le_of_ble_eq_true rfl, Nat.le_of_ble_eq_true rfl⟩ ⟨Nat.zero_le _, Nat.zero_le _⟩ dX2_readPair_4 (fun H locs hP hD hS => ?_)
  refine lv_aload_n X.hx X.hb dX2_readPair_7 rfl (lv_at hl 0 rfl) ?_
  refine gf_X2_18 X hP 0 rfl (v := .ref (uT 0)) rfl dX2_readPair_8 ?_
  refine lv_aload_n X.hx X.hb dX2_readPair_11 rfl (lv_at hl 0 rfl) ?_
  refine gf_X2_12 X hP 0 rfl (v := .ref (uC 0)) rfl dX2_readPair_12 ?_
  obtain ⟨⟨r_4, iT_5, jT_6⟩, hc_7, hf⟩ := bd_i hf
  refine r_bvi (gR G uR (uT 0) (uC 0) iR) ([] : va_W) (As := [.ref (uC 0)]) (rest := []) X sm_X2_141 (c_X8_passPerson l G N uT uC sT iT_1 jT_2 iC tC sC hc_7) hP hD hS hA (by simp only [List.append_assoc, List.append_nil, List.nil_append]) (wo := (gR G uR (uT 0) (uC 0) iR ++ gT G uT sT iT_5 jT_6 ++ gC G uC iC tC sC)) (by simp only [List.append_assoc, List.append_nil, List.nil_append]) 0 rfl rfl rfl hl.1 (lv_room (Nat.le_of_ble_eq_true rfl)) ⟨Nat.le_of_ble_eq_true rfl, Nat.le_of_ble_eq_true rfl⟩ ⟨Nat.zero_le _, Nat.zero_le _⟩ dX2_readPair_15 (fun H locs hP hD hS => ?_)
  refine lv_istore_n (lv' := [(2, .int r_4), (0, .ref (uR 0)), (1, .ref (uC 5))]) X.hx X.hb dX2_readPair_18 rfl hl (by decide) rfl (fun ls hl => ?_)
  refine lv_iload_n X.hx X.hb dX2_readPair_19 rfl (lv_at hl 0 rfl) ?_
  refine lv_iconst (v := (-1)) X.hx X.hb dX2_readPair_20 (by decide) ?_
  refine lv_icmp_ne (tgt := 26) X.hx X.hb dX2_readPair_21 (by decide) (fun hc_8 => ?_) (fun hc_8 => ?_)
  · replace hf := if_f hf hc_8
    refine lv_aload_n X.hx X.hb dX2_readPair_26 rfl (lv_at hl 1 rfl) ?_
    refine gf_X2_18 X hP 0 rfl (v := .ref (uT 0)) rfl dX2_readPair_27 ?_
    refine lv_aload_n X.hx X.hb dX2_readPair_30 rfl (lv_at hl 1 rfl) ?_
    refine gf_X2_12 X hP 0 rfl (v := .ref (uC 0)) rfl dX2_readPair_31 ?_
    obtain ⟨⟨r_9, iT_10⟩, hc_11, hf⟩ := bd_i hf
    refine r_bvi (gR G uR (uT 0) (uC 0) iR) ([] : va_W) (As := [.ref (uC 0)]) (rest := []) X sm_X2_155 (c_X8_personHere l G N uT uC sT iT_5 jT_6 iC tC sC hc_11) hP hD hS hA (by simp only [List.append_assoc, List.append_nil, List.nil_append]) (wo := (gR G uR (uT 0) (uC 0) iR ++ gT G uT sT iT_10 jT_6 ++ gC G uC iC tC sC)) (by simp only [List.append_assoc, List.append_nil, List.nil_append]) 0 rfl rfl rfl hl.1 (lv_room (Nat.le_of_ble_eq_true rfl)) ⟨Nat.le_of_ble_eq_true rfl, Nat.le_of_ble_eq_true rfl⟩ ⟨Nat.zero_le _, Nat.zero_le _⟩ dX2_readPair_34 (fun H locs hP hD hS => ?_)
    refine lv_istore_n (lv' := [(3, .int r_9), (2, .int r_4), (0, .ref (uR 0)), (1, .ref (uC 5))]) X.hx X.hb dX2_readPair_37 rfl hl (by decide) rfl (fun ls hl => ?_)
    refine lv_iload_n X.hx X.hb dX2_readPair_38 rfl (lv_at hl 0 rfl) ?_
    refine lv_iconst (v := (-1)) X.hx X.hb dX2_readPair_39 (by decide) ?_
    refine lv_icmp_ne (tgt := 45) X.hx X.hb dX2_readPair_40 (by decide) (fun hc_12 => ?_) (fun hc_12 => ?_)
    · replace hf := if_f hf hc_12
      refine lv_iload_n X.hx X.hb dX2_readPair_45 rfl (lv_at hl 1 rfl) ?_
      refine lv_iload_n X.hx X.hb dX2_readPair_46 rfl (lv_at hl 0 rfl) ?_
      obtain ⟨K_13, eK_15, hf⟩ := jn_i hf
      have hj_14 : ∀ (H : Heap) (locs : List Loc) (ls : Array Slot), K_13 () = some (r, iT', jT', sC') → va_P G.1 vwCl (gR G uR (uT 0) (uC 0) iR ++ gT G uT sT iT_10 jT_6 ++ gC G uC iC tC sC) H → va_D A (gR G uR (uT 0) (uC 0) iR ++ gT G uT sT iT_10 jT_6 ++ gC G uC iC tC sC) → va_S A s.heap H locs → lv_has ls 4 [(0, .ref (uR 0))] → W p l e (RM 4) s m args below meth c H locs 0 0 QQ (F0 m 60 ls []) := by
        intro  H locs ls hf hP hD hS hl
        rw [eK_15] at hf
        try dsimp only at hf
        refine lv_aload_n X.hx X.hb dX2_readPair_60 rfl (lv_at hl 0 rfl) ?_
        refine gf_X2_18 X hP 0 rfl (v := .ref (uT 0)) rfl dX2_readPair_61 ?_
        refine lv_iconst (v := 3) X.hx X.hb dX2_readPair_64 (by decide) ?_
        obtain ⟨⟨r_16, iT_17⟩, hc_18, hf⟩ := bd_i hf
        refine r_bvi (gR G uR (uT 0) (uC 0) iR) (gC G uC iC tC sC) (As := [.int 3]) (rest := []) X sm_X2_91 (c_X8_refuse l G N uT sT iT_10 jT_6 3 hc_18) hP hD hS hA (by simp only [List.append_assoc, List.append_nil, List.nil_append]) (wo := (gR G uR (uT 0) (uC 0) iR ++ gT G uT sT iT_17 jT_6 ++ gC G uC iC tC sC)) (by simp only [List.append_assoc, List.append_nil, List.nil_append]) 0 rfl rfl rfl hl.1 (lv_room (Nat.le_of_ble_eq_true rfl)) ⟨Nat.le_of_ble_eq_true rfl, Nat.le_of_ble_eq_true rfl⟩ ⟨Nat.zero_le _, Nat.zero_le _⟩ dX2_readPair_65 (fun H locs hP hD hS => ?_)
        obtain ⟨hb_19, hf⟩ := zb_i hf
        cases hf
        subst hQ
        exact r_zret X hP hD hS hb_19 dX2_readPair_68
      refine lv_icmp_eq (tgt := 60) X.hx X.hb dX2_readPair_47 (by decide) (fun hc_20 => ?_) (fun hc_20 => ?_)
      · replace hf := if_t hf hc_20
        exact hj_14 _ _ _ hf hP hD hS (lv_sub hl [2] rfl)
      · replace hf := if_f hf hc_20
        refine lv_aload_n X.hx X.hb dX2_readPair_50 rfl (lv_at hl 3 rfl) ?_
        refine lv_iload_n X.hx X.hb dX2_readPair_51 rfl (lv_at hl 1 rfl) ?_
        obtain ⟨hi_21, hf⟩ := ck_i hf
        refine r_iald X hP 7 (f := (sC 4)) rfl hi_21 dX2_readPair_52 ?_
        refine lv_iload_n X.hx X.hb dX2_readPair_53 rfl (lv_at hl 0 rfl) ?_
        obtain ⟨r_22, hc_23, hf⟩ := bd_i hf
        refine r_cn0 (As := [.int ((sC 4) (ix r_4)), .int r_9]) (rest := []) X sm_X2_158 (c_X10_has l G N ((sC 4) (ix r_4)) r_9 hc_23) hP hD hS hA rfl hl.1 (lv_room (Nat.le_of_ble_eq_true rfl)) ⟨Nat.le_of_ble_eq_true rfl, Nat.le_of_ble_eq_true rfl⟩ ⟨Nat.zero_le _, Nat.zero_le _⟩ dX2_readPair_54 (fun H locs hP hD hS => ?_)
        refine lv_if_eq (tgt := 69) X.hx X.hb dX2_readPair_57 (by decide) (fun hc_24 => ?_) (fun hc_24 => ?_)
        · replace hf := if_t hf hc_24
          refine lv_aload_n X.hx X.hb dX2_readPair_69 rfl (lv_at hl 3 rfl) ?_
          refine lv_iload_n X.hx X.hb dX2_readPair_70 rfl (lv_at hl 1 rfl) ?_
          refine lv_dup2_11 X.hx X.hb dX2_readPair_71 rfl rfl ?_
          obtain ⟨hi_25, hf⟩ := ck_i hf
          refine r_iald X hP 7 (f := (sC 4)) rfl hi_25 dX2_readPair_72 ?_
          refine lv_iconst (v := 1) X.hx X.hb dX2_readPair_73 (by decide) ?_
          refine lv_iload_n X.hx X.hb dX2_readPair_74 rfl (lv_at hl 0 rfl) ?_
          refine lv_ishl X.hx X.hb dX2_readPair_75 ?_
          refine lv_ior X.hx X.hb dX2_readPair_76 ?_
          obtain ⟨hi_26, hf⟩ := ck_i hf
          obtain ⟨g_27, eg_27, hf⟩ := nv_i hf
          refine r_iast X hP hD hS 7 (f := (sC 4)) rfl hi_26 (wo := (gR G uR (uT 0) (uC 0) iR ++ gT G uT sT iT_10 jT_6 ++ gC G uC iC tC (va_up sC 4 g_27))) (by subst eg_27; rfl) dX2_readPair_77 (fun H locs hP hD hS => ?_)
          refine lv_aload_n X.hx X.hb dX2_readPair_78 rfl (lv_at hl 3 rfl) ?_
          refine lv_iload_n X.hx X.hb dX2_readPair_79 rfl (lv_at hl 0 rfl) ?_
          refine lv_dup2_11 X.hx X.hb dX2_readPair_80 rfl rfl ?_
          obtain ⟨hi_28, hf⟩ := ck_i hf
          refine r_iald X hP 7 (f := g_27) rfl hi_28 dX2_readPair_81 ?_
          refine lv_iconst (v := 1) X.hx X.hb dX2_readPair_82 (by decide) ?_
          refine lv_iload_n X.hx X.hb dX2_readPair_83 rfl (lv_at hl 1 rfl) ?_
          refine lv_ishl X.hx X.hb dX2_readPair_84 ?_
          refine lv_ior X.hx X.hb dX2_readPair_85 ?_
          obtain ⟨hi_29, hf⟩ := ck_i hf
          obtain ⟨g_30, eg_30, hf⟩ := nv_i hf
          refine r_iast X hP hD hS 7 (f := g_27) rfl hi_29 (wo := (gR G uR (uT 0) (uC 0) iR ++ gT G uT sT iT_10 jT_6 ++ gC G uC iC tC (va_up sC 4 g_30))) (by subst eg_30; rfl) dX2_readPair_86 (fun H locs hP hD hS => ?_)
          refine lv_aload_n X.hx X.hb dX2_readPair_87 rfl (lv_at hl 2 rfl) ?_
          refine gf_X2_18 X hP 0 rfl (v := .ref (uT 0)) rfl dX2_readPair_88 ?_
          obtain ⟨⟨iT_31, jT_32⟩, hc_33, hf⟩ := bd_i hf
          refine r_bvv (gR G uR (uT 0) (uC 0) iR) (gC G uC iC tC (va_up sC 4 g_30)) (As := []) (rest := []) X sm_X2_97 (c_X8_next l G N uT sT iT_10 jT_6 hc_33) hP hD hS hA (by simp only [List.append_assoc, List.append_nil, List.nil_append]) (wo := (gR G uR (uT 0) (uC 0) iR ++ gT G uT sT iT_31 jT_32 ++ gC G uC iC tC (va_up sC 4 g_30))) (by simp only [List.append_assoc, List.append_nil, List.nil_append]) 0 rfl rfl rfl hl.1 (lv_room (Nat.le_of_ble_eq_true rfl)) ⟨Nat.le_of_ble_eq_true rfl, Nat.le_of_ble_eq_true rfl⟩ ⟨Nat.zero_le _, Nat.zero_le _⟩ dX2_readPair_91 (fun H locs hP hD hS => ?_)
          refine lv_iconst (v := 1) X.hx X.hb dX2_readPair_94 (by decide) ?_
          cases hf
          subst hQ
          exact r_zret X hP hD hS (by decide) dX2_readPair_95
        · replace hf := if_f hf hc_24
          exact hj_14 _ _ _ hf hP hD hS (lv_sub hl [2] rfl)
    · replace hf := if_t hf hc_12
      refine lv_iconst (v := 0) X.hx X.hb dX2_readPair_43 (by decide) ?_
      cases hf
      subst hQ
      exact r_zret X hP hD hS (by decide) dX2_readPair_44
  · replace hf := if_t hf hc_8
    refine lv_iconst (v := 0) X.hx X.hb dX2_readPair_24 (by decide) ?_
    cases hf
    subst hQ
    exact r_zret X hP hD hS (by decide) dX2_readPair_25

