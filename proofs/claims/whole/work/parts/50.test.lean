def f_X10_has (N : Nat) (p1 : Int32) (p2 : Int32) : Option (Int32) :=
  (if ((us p1 p2) &&& 1) = 0 then some 0 else some 1)
set_option maxHeartbeats 4000000 in
set_option maxRecDepth 100000 in
theorem c_X10_has (l : Launch) (G : GT) (N : Nat) (p1 : Int32) (p2 : Int32) {r : Int32} (hf : f_X10_has N p1 p2 = some r) : CI l G yX10_has cX10_has 2 .boolean 1 [.int p1, .int p2] ([] : va_W) r ([] : va_W) := by
  refine CI.of (by decide) (Nat.le_of_ble_eq_true rfl) ?_
  intro p e s m args below meth c A X hA hP hD hS ls hl
  have hl : lv_has ls 2 [(0, .int p1), (1, .int p2)] := hl
  generalize hQ : MQ below (QI G A r ([] : va_W)) args s 0 0 A = QQ
  unfold f_X10_has at hf
  refine lv_iload_n X.hx X.hb dX10_has_0 rfl (lv_at hl 0 rfl) ?_
  refine lv_iload_n X.hx X.hb dX10_has_1 rfl (lv_at hl 1 rfl) ?_
  refine lv_iushr (v := (us p1 p2)) X.hx X.hb dX10_has_2 rfl ?_
  refine lv_iconst (v := 1) X.hx X.hb dX10_has_3 (by decide) ?_
  refine lv_iand X.hx X.hb dX10_has_4 ?_
  refine lv_if_eq (tgt := 12) X.hx X.hb dX10_has_5 (by decide) (fun hc_1 => ?_) (fun hc_1 => ?_)
  · replace hf := if_t hf hc_1
    refine lv_iconst (v := 0) X.hx X.hb dX10_has_12 (by decide) ?_
    cases hf
    subst hQ
    exact r_zret X hP hD hS (by decide) dX10_has_13
  · replace hf := if_f hf hc_1
    refine lv_iconst (v := 1) X.hx X.hb dX10_has_8 (by decide) ?_
    refine lv_goto (tgt := 13) X.hx X.hb dX10_has_9 (by decide) ?_
    cases hf
    subst hQ
    exact r_zret X hP hD hS (by decide) dX10_has_13

def f_X10_cellOf (N : Nat) (p1 : Int32) (p2 : Int32) : Option (Int32) :=
  some ((p1 * 5) + p2)
set_option maxHeartbeats 4000000 in
set_option maxRecDepth 100000 in
theorem c_X10_cellOf (l : Launch) (G : GT) (N : Nat) (p1 : Int32) (p2 : Int32) {r : Int32} (hf : f_X10_cellOf N p1 p2 = some r) : CI l G yX10_cellOf cX10_cellOf 2 .int 1 [.int p1, .int p2] ([] : va_W) r ([] : va_W) := by
  refine CI.of (by decide) (Nat.le_of_ble_eq_true rfl) ?_
  intro p e s m args below meth c A X hA hP hD hS ls hl
  have hl : lv_has ls 2 [(0, .int p1), (1, .int p2)] := hl
  generalize hQ : MQ below (QI G A r ([] : va_W)) args s 0 0 A = QQ
  unfold f_X10_cellOf at hf
  refine lv_iload_n X.hx X.hb dX10_cellOf_0 rfl (lv_at hl 0 rfl) ?_
  refine lv_iconst (v := 5) X.hx X.hb dX10_cellOf_1 (by decide) ?_
  refine lv_imul X.hx X.hb dX10_cellOf_2 ?_
  refine lv_iload_n X.hx X.hb dX10_cellOf_3 rfl (lv_at hl 1 rfl) ?_
  refine lv_iadd X.hx X.hb dX10_cellOf_4 ?_
  cases hf
  subst hQ
  exact r_iret X hP hD hS dX10_cellOf_5

def f_X10_pairOf (N : Nat) (p1 : Int32) (p2 : Int32) : Option (Int32) :=
  some ((p1 * 7) + p2)
set_option maxHeartbeats 4000000 in
set_option maxRecDepth 100000 in
theorem c_X10_pairOf (l : Launch) (G : GT) (N : Nat) (p1 : Int32) (p2 : Int32) {r : Int32} (hf : f_X10_pairOf N p1 p2 = some r) : CI l G yX10_pairOf cX10_pairOf 2 .int 1 [.int p1, .int p2] ([] : va_W) r ([] : va_W) := by
  refine CI.of (by decide) (Nat.le_of_ble_eq_true rfl) ?_
  intro p e s m args below meth c A X hA hP hD hS ls hl
  have hl : lv_has ls 2 [(0, .int p1), (1, .int p2)] := hl
  generalize hQ : MQ below (QI G A r ([] : va_W)) args s 0 0 A = QQ
  unfold f_X10_pairOf at hf
  refine lv_iload_n X.hx X.hb dX10_pairOf_0 rfl (lv_at hl 0 rfl) ?_
  refine lv_bipush (v := 7) X.hx X.hb dX10_pairOf_1 (by decide) ?_
  refine lv_imul X.hx X.hb dX10_pairOf_3 ?_
  refine lv_iload_n X.hx X.hb dX10_pairOf_4 rfl (lv_at hl 1 rfl) ?_
  refine lv_iadd X.hx X.hb dX10_pairOf_5 ?_
  cases hf
  subst hQ
  exact r_iret X hP hD hS dX10_pairOf_6

def f_X1_everyone (N : Nat) (iC : Nat → Int32) (tC : Nat → Nat → Int64) (sC : Nat → Nat → Int32) : Option (Int32) :=
  some (((1 : Int32) <<< ((iC 0) &&& 31)) - 1)
set_option maxHeartbeats 4000000 in
set_option maxRecDepth 100000 in
theorem c_X1_everyone (l : Launch) (G : GT) (N : Nat) (uC : Nat → Nat) (iC : Nat → Int32) (tC : Nat → Nat → Int64) (sC : Nat → Nat → Int32) {r : Int32} (hf : f_X1_everyone N iC tC sC = some r) : CI l G yX1_everyone cX1_everyone 1 .int 1 [.ref (uC 0)] (gC G uC iC tC sC) r (gC G uC iC tC sC) := by
  refine CI.of (by decide) (Nat.le_of_ble_eq_true rfl) ?_
  intro p e s m args below meth c A X hA hP hD hS ls hl
  have hl : lv_has ls 1 [(0, .ref (uC 0))] := hl
  generalize hQ : MQ below (QI G A r (gC G uC iC tC sC)) args s 0 0 A = QQ
  unfold f_X1_everyone at hf
  refine lv_iconst (v := 1) X.hx X.hb dX1_everyone_0 (by decide) ?_
  refine lv_aload_n X.hx X.hb dX1_everyone_1 rfl (lv_at hl 0 rfl) ?_
  refine gf_X1_37 X hP 0 rfl (v := .int (iC 0)) rfl dX1_everyone_2 ?_
  refine lv_ishl X.hx X.hb dX1_everyone_5 ?_
  refine lv_iconst (v := 1) X.hx X.hb dX1_everyone_6 (by decide) ?_
  refine lv_isub X.hx X.hb dX1_everyone_7 ?_
  cases hf
  subst hQ
  exact r_iret X hP hD hS dX1_everyone_8

def f_X4_known (N : Nat) (iM : Nat → Int32) (sM : Nat → Nat → Int32) (iC : Nat → Int32) (tC : Nat → Nat → Int64) (sC : Nat → Nat → Int32) (p1 : Int32) : Option (Int32) :=
  ck p1 7 (ck p1 7 (some (((sC 4) (ix p1)) ||| ((sM 8) (ix p1)))))
set_option maxHeartbeats 4000000 in
set_option maxRecDepth 100000 in
theorem c_X4_known (l : Launch) (G : GT) (N : Nat) (uM uC : Nat → Nat) (iM : Nat → Int32) (sM : Nat → Nat → Int32) (iC : Nat → Int32) (tC : Nat → Nat → Int64) (sC : Nat → Nat → Int32) (p1 : Int32) {r : Int32} (hf : f_X4_known N iM sM iC tC sC p1 = some r) : CI l G yX4_known cX4_known 2 .int 1 [.ref (uM 0), .int p1] (gM G uM (uC 0) iM sM ++ gC G uC iC tC sC) r (gM G uM (uC 0) iM sM ++ gC G uC iC tC sC) := by
  refine CI.of (by decide) (Nat.le_of_ble_eq_true rfl) ?_
  intro p e s m args below meth c A X hA hP hD hS ls hl
  have hl : lv_has ls 2 [(0, .ref (uM 0)), (1, .int p1)] := hl
  generalize hQ : MQ below (QI G A r (gM G uM (uC 0) iM sM ++ gC G uC iC tC sC)) args s 0 0 A = QQ
  unfold f_X4_known at hf
  refine lv_aload_n X.hx X.hb dX4_known_0 rfl (lv_at hl 0 rfl) ?_
  refine gf_X4_30 X hP 0 rfl (v := .ref (uC 0)) rfl dX4_known_1 ?_
  refine gf_X4_76 X hP 7 rfl (v := .ref (uC 5)) rfl dX4_known_4 ?_
  refine lv_iload_n X.hx X.hb dX4_known_7 rfl (lv_at hl 1 rfl) ?_
  obtain ⟨hi_1, hf⟩ := ck_i hf
  refine r_iald X hP 10 (f := (sC 4)) rfl hi_1 dX4_known_8 ?_
  refine lv_aload_n X.hx X.hb dX4_known_9 rfl (lv_at hl 0 rfl) ?_
  refine gf_X4_18 X hP 0 rfl (v := .ref (uM 9)) rfl dX4_known_10 ?_
  refine lv_iload_n X.hx X.hb dX4_known_13 rfl (lv_at hl 1 rfl) ?_
  obtain ⟨hi_2, hf⟩ := ck_i hf
  refine r_iald X hP 3 (f := (sM 8)) rfl hi_2 dX4_known_14 ?_
  refine lv_ior X.hx X.hb dX4_known_15 ?_
  cases hf
  subst hQ
  exact r_iret X hP hD hS dX4_known_16

def f_X4_dealable (N : Nat) (iM : Nat → Int32) (sM : Nat → Nat → Int32) (iC : Nat → Int32) (tC : Nat → Nat → Int64) (sC : Nat → Nat → Int32) (p1 : Int32) : Option (Int32) :=
  bd (f_X4_known N iM sM iC tC sC p1) (fun r_1 => ck p1 7 (bd (f_X1_everyone N iC tC sC) (fun r_4 => some ((((r_1 ^^^ (-1)) ||| ((sC 5) (ix p1))) &&& r_4) &&& (((1 : Int32) <<< (p1 &&& 31)) ^^^ (-1))))))
set_option maxHeartbeats 4000000 in
set_option maxRecDepth 100000 in
theorem c_X4_dealable (l : Launch) (G : GT) (N : Nat) (uM uC : Nat → Nat) (iM : Nat → Int32) (sM : Nat → Nat → Int32) (iC : Nat → Int32) (tC : Nat → Nat → Int64) (sC : Nat → Nat → Int32) (p1 : Int32) {r : Int32} (hf : f_X4_dealable N iM sM iC tC sC p1 = some r) : CI l G yX4_dealable cX4_dealable 2 .int 2 [.ref (uM 0), .int p1] (gM G uM (uC 0) iM sM ++ gC G uC iC tC sC) r (gM G uM (uC 0) iM sM ++ gC G uC iC tC sC) := by
  refine CI.of (by decide) (Nat.le_of_ble_eq_true rfl) ?_
  intro p e s m args below meth c A X hA hP hD hS ls hl
  have hl : lv_has ls 2 [(0, .ref (uM 0)), (1, .int p1)] := hl
  generalize hQ : MQ below (QI G A r (gM G uM (uC 0) iM sM ++ gC G uC iC tC sC)) args s 0 0 A = QQ
  unfold f_X4_dealable at hf
  refine lv_aload_n X.hx X.hb dX4_dealable_0 rfl (lv_at hl 0 rfl) ?_
  refine lv_iload_n X.hx X.hb dX4_dealable_1 rfl (lv_at hl 1 rfl) ?_
  obtain ⟨r_1, hc_2, hf⟩ := bd_i hf
  refine r_cvi (As := [.int p1]) (rest := []) X sm_X4_79 (c_X4_known l G N uM uC iM sM iC tC sC p1 hc_2) hP hD hS hA 0 rfl rfl [0, 1, 2, 3, 4, 5, 6, 7, 8, 9, 10, 11, 12, 13, 14] rfl rfl rfl (wo := (gM G uM (uC 0) iM sM ++ gC G uC iC tC sC)) rfl rfl hl.1 (lv_room (Nat.le_of_ble_eq_true rfl)) ⟨Nat.le_of_ble_eq_true rfl, Nat.le_of_ble_eq_true rfl⟩ ⟨Nat.zero_le _, Nat.zero_le _⟩ dX4_dealable_2 (fun H locs hP hD hS => ?_)
  refine lv_iconst (v := (-1)) X.hx X.hb dX4_dealable_5 (by decide) ?_
  refine lv_ixor X.hx X.hb dX4_dealable_6 ?_
  refine lv_aload_n X.hx X.hb dX4_dealable_7 rfl (lv_at hl 0 rfl) ?_
  refine gf_X4_30 X hP 0 rfl (v := .ref (uC 0)) rfl dX4_dealable_8 ?_
  refine gf_X4_83 X hP 7 rfl (v := .ref (uC 6)) rfl dX4_dealable_11 ?_
  refine lv_iload_n X.hx X.hb dX4_dealable_14 rfl (lv_at hl 1 rfl) ?_
  obtain ⟨hi_3, hf⟩ := ck_i hf
  refine r_iald X hP 11 (f := (sC 5)) rfl hi_3 dX4_dealable_15 ?_
  refine lv_ior X.hx X.hb dX4_dealable_16 ?_
  refine lv_aload_n X.hx X.hb dX4_dealable_17 rfl (lv_at hl 0 rfl) ?_
  refine gf_X4_30 X hP 0 rfl (v := .ref (uC 0)) rfl dX4_dealable_18 ?_
  obtain ⟨r_4, hc_5, hf⟩ := bd_i hf
  refine r_cvi (As := []) (rest := [.int ((r_1 ^^^ (-1)) ||| ((sC 5) (ix p1)))]) X sm_X4_86 (c_X1_everyone l G N uC iC tC sC hc_5) hP hD hS hA 7 rfl rfl [7, 8, 9, 10, 11, 12, 13, 14] rfl rfl rfl (wo := (gM G uM (uC 0) iM sM ++ gC G uC iC tC sC)) rfl rfl hl.1 (lv_room (Nat.le_of_ble_eq_true rfl)) ⟨Nat.le_of_ble_eq_true rfl, Nat.le_of_ble_eq_true rfl⟩ ⟨Nat.zero_le _, Nat.zero_le _⟩ dX4_dealable_21 (fun H locs hP hD hS => ?_)
  refine lv_iand X.hx X.hb dX4_dealable_24 ?_
  refine lv_iconst (v := 1) X.hx X.hb dX4_dealable_25 (by decide) ?_
  refine lv_iload_n X.hx X.hb dX4_dealable_26 rfl (lv_at hl 1 rfl) ?_
  refine lv_ishl X.hx X.hb dX4_dealable_27 ?_
  refine lv_iconst (v := (-1)) X.hx X.hb dX4_dealable_28 (by decide) ?_
  refine lv_ixor X.hx X.hb dX4_dealable_29 ?_
  refine lv_iand X.hx X.hb dX4_dealable_30 ?_
  cases hf
  subst hQ
  exact r_iret X hP hD hS dX4_dealable_31

def f_X4_wanting_4 (N : Nat) (iM : Nat → Int32) (sM : Nat → Nat → Int32) (iC : Nat → Int32) (tC : Nat → Nat → Int64) (sC : Nat → Nat → Int32) (v1 : Int32) : Nat → (Int32) → (Int32) → Option (Int32)
  | 0, _, _ => none
  | k + 1, v2, v3 => (if (5 : Int32) ≤ v3 then some v2 else bd (f_X10_cellOf N v1 v3) (fun r_10 => ck r_10 35 (nv (v2 + ((sM 10) (ix r_10))) (fun n_13 => f_X4_wanting_4 N iM sM iC tC sC v1 k n_13 (v3 + 1)))))
def f_X4_wanting (N : Nat) (iM : Nat → Int32) (sM : Nat → Nat → Int32) (iC : Nat → Int32) (tC : Nat → Nat → Int64) (sC : Nat → Nat → Int32) (p1 : Int32) : Option (Int32) :=
  f_X4_wanting_4 N iM sM iC tC sC p1 N 0 0
set_option maxHeartbeats 4000000 in
set_option maxRecDepth 100000 in
theorem c_X4_wanting (l : Launch) (G : GT) (N : Nat) (uM uC : Nat → Nat) (iM : Nat → Int32) (sM : Nat → Nat → Int32) (iC : Nat → Int32) (tC : Nat → Nat → Int64) (sC : Nat → Nat → Int32) (p1 : Int32) {r : Int32} (hf : f_X4_wanting N iM sM iC tC sC p1 = some r) : CI l G yX4_wanting cX4_wanting 4 .int 2 [.ref (uM 0), .int p1] (gM G uM (uC 0) iM sM ++ gC G uC iC tC sC) r (gM G uM (uC 0) iM sM ++ gC G uC iC tC sC) := by
  refine CI.of (by decide) (Nat.le_of_ble_eq_true rfl) ?_
  intro p e s m args below meth c A X hA hP hD hS ls hl
  have hl : lv_has ls 4 [(0, .ref (uM 0)), (1, .int p1)] := hl
  generalize hQ : MQ below (QI G A r (gM G uM (uC 0) iM sM ++ gC G uC iC tC sC)) args s 0 0 A = QQ
  unfold f_X4_wanting at hf
  refine lv_iconst (v := 0) X.hx X.hb dX4_wanting_0 (by decide) ?_
  refine lv_istore_n (lv' := [(2, .int 0), (0, .ref (uM 0)), (1, .int p1)]) X.hx X.hb dX4_wanting_1 rfl hl (by decide) rfl (fun ls hl => ?_)
  refine lv_iconst (v := 0) X.hx X.hb dX4_wanting_2 (by decide) ?_
  refine lv_istore_n (lv' := [(3, .int 0), (2, .int 0), (0, .ref (uM 0)), (1, .int p1)]) X.hx X.hb dX4_wanting_3 rfl hl (by decide) rfl (fun ls hl => ?_)
  have hlo_1 : ∀ (k : Nat) (v2_2 : Int32) (v3_3 : Int32) (H : Heap) (locs : List Loc) (ls : Array Slot), f_X4_wanting_4 N iM sM iC tC sC p1 k v2_2 v3_3 = some r → va_P G.1 vwCl (gM G uM (uC 0) iM sM ++ gC G uC iC tC sC) H → va_D A (gM G uM (uC 0) iM sM ++ gC G uC iC tC sC) → va_S A s.heap H locs → lv_has ls 4 [(0, .ref (uM 0)), (1, .int p1), (2, .int v2_2), (3, .int v3_3)] → W p l e (RM 2) s m args below meth c H locs 0 0 QQ (F0 m 4 ls []) := by
    intro k
    induction k with
    | zero => intro v2_2 v3_3 H locs ls hf; exact absurd hf (by intro q; cases q)
    | succ k ih =>
      intro v2_2 v3_3 H locs ls hf hP hD hS hl
      unfold f_X4_wanting_4 at hf
      refine lv_iload_n X.hx X.hb dX4_wanting_4 rfl (lv_at hl 3 rfl) ?_
      refine lv_iconst (v := 5) X.hx X.hb dX4_wanting_5 (by decide) ?_
      refine lv_icmp_ge (tgt := 28) X.hx X.hb dX4_wanting_6 (by decide) (fun hc_4 => ?_) (fun hc_4 => ?_)
      · replace hf := if_t hf hc_4
        refine lv_iload_n X.hx X.hb dX4_wanting_28 rfl (lv_at hl 2 rfl) ?_
        cases hf
        subst hQ
        exact r_iret X hP hD hS dX4_wanting_29
      · replace hf := if_f hf hc_4
        refine lv_iload_n X.hx X.hb dX4_wanting_9 rfl (lv_at hl 2 rfl) ?_
        refine lv_aload_n X.hx X.hb dX4_wanting_10 rfl (lv_at hl 0 rfl) ?_
        refine gf_X4_24 X hP 0 rfl (v := .ref (uM 11)) rfl dX4_wanting_11 ?_
        refine lv_iload_n X.hx X.hb dX4_wanting_14 rfl (lv_at hl 1 rfl) ?_
        refine lv_iload_n X.hx X.hb dX4_wanting_15 rfl (lv_at hl 3 rfl) ?_
        obtain ⟨r_5, hc_6, hf⟩ := bd_i hf
        refine r_cn0 (As := [.int p1, .int v3_3]) (rest := [.ref (uM 11), .int v2_2]) X sm_X4_90 (c_X10_cellOf l G N p1 v3_3 hc_6) hP hD hS hA rfl hl.1 (lv_room (Nat.le_of_ble_eq_true rfl)) ⟨Nat.le_of_ble_eq_true rfl, Nat.le_of_ble_eq_true rfl⟩ ⟨Nat.zero_le _, Nat.zero_le _⟩ dX4_wanting_16 (fun H locs hP hD hS => ?_)
        obtain ⟨hi_7, hf⟩ := ck_i hf
        refine r_iald X hP 5 (f := (sM 10)) rfl hi_7 dX4_wanting_19 ?_
        refine lv_iadd X.hx X.hb dX4_wanting_20 ?_
        obtain ⟨n_8, en_8, hf⟩ := nv_i hf
        refine r_nm en_8 ?_
        refine lv_istore_n (lv' := [(2, .int n_8), (0, .ref (uM 0)), (1, .int p1), (3, .int v3_3)]) X.hx X.hb dX4_wanting_21 rfl hl (by decide) rfl (fun ls hl => ?_)
        refine lv_iinc (v := (v3_3 + 1)) (lv' := [(3, .int (v3_3 + 1)), (2, .int n_8), (0, .ref (uM 0)), (1, .int p1)]) X.hx X.hb dX4_wanting_22 hl (k := 3) rfl rfl (by decide) rfl (fun ls hl => ?_)
        refine lv_goto (tgt := 4) X.hx X.hb dX4_wanting_25 (by decide) ?_
        exact ih _ _ _ _ _ hf hP hD hS (lv_sub hl [2, 3, 1, 0] rfl)
  exact hlo_1 N _ _ _ _ _ hf hP hD hS (lv_sub hl [2, 3, 1, 0] rfl)

def f_X4_fed_4 (N : Nat) (iM : Nat → Int32) (sM : Nat → Nat → Int32) (iC : Nat → Int32) (tC : Nat → Nat → Int64) (sC : Nat → Nat → Int32) : Nat → (Int32) → (Int32) → Option (Int32)
  | 0, _, _ => none
  | k + 1, v1, v2 => (if (iC 0) ≤ v2 then some v1 else bd (f_X4_wanting N iM sM iC tC sC v2) (fun r_14 => jn (fun (z : (Int32)) => match z with | x1_19 => f_X4_fed_4 N iM sM iC tC sC k x1_19 (v2 + 1)) (fun K_16 =>
  (if r_14 = 0 then nv (v1 ||| ((1 : Int32) <<< (v2 &&& 31))) (fun n_21 => K_16 n_21) else K_16 v1))))
def f_X4_fed (N : Nat) (iM : Nat → Int32) (sM : Nat → Nat → Int32) (iC : Nat → Int32) (tC : Nat → Nat → Int64) (sC : Nat → Nat → Int32) : Option (Int32) :=
  f_X4_fed_4 N iM sM iC tC sC N 0 0
set_option maxHeartbeats 4000000 in
set_option maxRecDepth 100000 in
theorem c_X4_fed (l : Launch) (G : GT) (N : Nat) (uM uC : Nat → Nat) (iM : Nat → Int32) (sM : Nat → Nat → Int32) (iC : Nat → Int32) (tC : Nat → Nat → Int64) (sC : Nat → Nat → Int32) {r : Int32} (hf : f_X4_fed N iM sM iC tC sC = some r) : CI l G yX4_fed cX4_fed 3 .int 3 [.ref (uM 0)] (gM G uM (uC 0) iM sM ++ gC G uC iC tC sC) r (gM G uM (uC 0) iM sM ++ gC G uC iC tC sC) := by
  refine CI.of (by decide) (Nat.le_of_ble_eq_true rfl) ?_
  intro p e s m args below meth c A X hA hP hD hS ls hl
  have hl : lv_has ls 3 [(0, .ref (uM 0))] := hl
  generalize hQ : MQ below (QI G A r (gM G uM (uC 0) iM sM ++ gC G uC iC tC sC)) args s 0 0 A = QQ
  unfold f_X4_fed at hf
  refine lv_iconst (v := 0) X.hx X.hb dX4_fed_0 (by decide) ?_
  refine lv_istore_n (lv' := [(1, .int 0), (0, .ref (uM 0))]) X.hx X.hb dX4_fed_1 rfl hl (by decide) rfl (fun ls hl => ?_)
  refine lv_iconst (v := 0) X.hx X.hb dX4_fed_2 (by decide) ?_
  refine lv_istore_n (lv' := [(2, .int 0), (1, .int 0), (0, .ref (uM 0))]) X.hx X.hb dX4_fed_3 rfl hl (by decide) rfl (fun ls hl => ?_)
  have hlo_1 : ∀ (k : Nat) (v1_2 : Int32) (v2_3 : Int32) (H : Heap) (locs : List Loc) (ls : Array Slot), f_X4_fed_4 N iM sM iC tC sC k v1_2 v2_3 = some r → va_P G.1 vwCl (gM G uM (uC 0) iM sM ++ gC G uC iC tC sC) H → va_D A (gM G uM (uC 0) iM sM ++ gC G uC iC tC sC) → va_S A s.heap H locs → lv_has ls 3 [(0, .ref (uM 0)), (1, .int v1_2), (2, .int v2_3)] → W p l e (RM 3) s m args below meth c H locs 0 0 QQ (F0 m 4 ls []) := by
    intro k
    induction k with
    | zero => intro v1_2 v2_3 H locs ls hf; exact absurd hf (by intro q; cases q)
    | succ k ih =>
      intro v1_2 v2_3 H locs ls hf hP hD hS hl
      unfold f_X4_fed_4 at hf
      refine lv_iload_n X.hx X.hb dX4_fed_4 rfl (lv_at hl 2 rfl) ?_
      refine lv_aload_n X.hx X.hb dX4_fed_5 rfl (lv_at hl 0 rfl) ?_
      refine gf_X4_30 X hP 0 rfl (v := .ref (uC 0)) rfl dX4_fed_6 ?_
      refine gf_X4_97 X hP 7 rfl (v := .int (iC 0)) rfl dX4_fed_9 ?_
      refine lv_icmp_ge (tgt := 35) X.hx X.hb dX4_fed_12 (by decide) (fun hc_4 => ?_) (fun hc_4 => ?_)
      · replace hf := if_t hf hc_4
        refine lv_iload_n X.hx X.hb dX4_fed_35 rfl (lv_at hl 1 rfl) ?_
        cases hf
        subst hQ
        exact r_iret X hP hD hS dX4_fed_36
      · replace hf := if_f hf hc_4
        refine lv_aload_n X.hx X.hb dX4_fed_15 rfl (lv_at hl 0 rfl) ?_
        refine lv_iload_n X.hx X.hb dX4_fed_16 rfl (lv_at hl 2 rfl) ?_
        obtain ⟨r_5, hc_6, hf⟩ := bd_i hf
        refine r_cvi (As := [.int v2_3]) (rest := []) X sm_X4_100 (c_X4_wanting l G N uM uC iM sM iC tC sC v2_3 hc_6) hP hD hS hA 0 rfl rfl [0, 1, 2, 3, 4, 5, 6, 7, 8, 9, 10, 11, 12, 13, 14] rfl rfl rfl (wo := (gM G uM (uC 0) iM sM ++ gC G uC iC tC sC)) rfl rfl hl.1 (lv_room (Nat.le_of_ble_eq_true rfl)) ⟨Nat.le_of_ble_eq_true rfl, Nat.le_of_ble_eq_true rfl⟩ ⟨Nat.zero_le _, Nat.zero_le _⟩ dX4_fed_17 (fun H locs hP hD hS => ?_)
        obtain ⟨K_7, eK_9, hf⟩ := jn_i hf
        have hj_8 : ∀ (x1_10 : Int32) (H : Heap) (locs : List Loc) (ls : Array Slot), K_7 x1_10 = some r → va_P G.1 vwCl (gM G uM (uC 0) iM sM ++ gC G uC iC tC sC) H → va_D A (gM G uM (uC 0) iM sM ++ gC G uC iC tC sC) → va_S A s.heap H locs → lv_has ls 3 [(0, .ref (uM 0)), (1, .int x1_10), (2, .int v2_3)] → W p l e (RM 3) s m args below meth c H locs 0 0 QQ (F0 m 29 ls []) := by
          intro x1_10 H locs ls hf hP hD hS hl
          rw [eK_9] at hf
          try dsimp only at hf
          refine lv_iinc (v := (v2_3 + 1)) (lv' := [(2, .int (v2_3 + 1)), (0, .ref (uM 0)), (1, .int x1_10)]) X.hx X.hb dX4_fed_29 hl (k := 2) rfl rfl (by decide) rfl (fun ls hl => ?_)
          refine lv_goto (tgt := 4) X.hx X.hb dX4_fed_32 (by decide) ?_
          exact ih _ _ _ _ _ hf hP hD hS (lv_sub hl [1, 2, 0] rfl)
        refine lv_if_ne (tgt := 29) X.hx X.hb dX4_fed_20 (by decide) (fun hc_11 => ?_) (fun hc_11 => ?_)
        · replace hf := if_f hf hc_11
          exact hj_8 _ _ _ _ hf hP hD hS (lv_sub hl [0, 1, 2] rfl)
        · replace hf := if_t hf hc_11
          refine lv_iload_n X.hx X.hb dX4_fed_23 rfl (lv_at hl 1 rfl) ?_
          refine lv_iconst (v := 1) X.hx X.hb dX4_fed_24 (by decide) ?_
          refine lv_iload_n X.hx X.hb dX4_fed_25 rfl (lv_at hl 2 rfl) ?_
          refine lv_ishl X.hx X.hb dX4_fed_26 ?_
          refine lv_ior X.hx X.hb dX4_fed_27 ?_
          obtain ⟨n_12, en_12, hf⟩ := nv_i hf
          refine r_nm en_12 ?_
          refine lv_istore_n (lv' := [(1, .int n_12), (0, .ref (uM 0)), (2, .int v2_3)]) X.hx X.hb dX4_fed_28 rfl hl (by decide) rfl (fun ls hl => ?_)
          exact hj_8 _ _ _ _ hf hP hD hS (lv_sub hl [1, 0, 2] rfl)
  exact hlo_1 N _ _ _ _ _ hf hP hD hS (lv_sub hl [2, 1, 0] rfl)

def f_X4_whyNotBuy (N : Nat) (iM : Nat → Int32) (sM : Nat → Nat → Int32) (iC : Nat → Int32) (tC : Nat → Nat → Int64) (sC : Nat → Nat → Int32) (p1 : Int32) (p2 : Int32) (p3 : Int32) : Option (Int32) :=
  (if p1 = p3 then some 1 else bd (f_X10_has N (iM 2) p1) (fun r_2 => (if r_2 = 0 then bd (f_X10_has N (iM 2) p3) (fun r_5 => (if r_5 = 0 then bd (f_X4_dealable N iM sM iC tC sC p1) (fun r_8 => bd (f_X10_has N r_8 p3) (fun r_10 => jn (fun (z : Unit) => match z with | () => bd (f_X10_cellOf N p3 p2) (fun r_15 => ck r_15 35 ((if (1 : Int32) ≤ ((sM 9) (ix r_15)) then bd (f_X10_cellOf N p3 p2) (fun r_19 => ck r_19 35 (ck p1 7 ((if ((sC 8) (ix r_19)) ≤ ((sM 6) (ix p1)) then bd (f_X10_cellOf N p1 p2) (fun r_24 => ck r_24 35 ((if (1 : Int32) ≤ ((sM 10) (ix r_24)) then some 0 else some 6))) else some 5)))) else some 4)))) (fun K_12 =>
  (if r_10 = 0 then bd (f_X10_has N (iM 3) p1) (fun r_29 => (if r_29 = 0 then bd (f_X10_has N (iM 3) p3) (fun r_32 => (if r_32 = 0 then some 3 else K_12 ())) else K_12 ())) else K_12 ())))) else some 2)) else some 2)))
set_option maxHeartbeats 4000000 in
set_option maxRecDepth 100000 in
theorem c_X4_whyNotBuy (l : Launch) (G : GT) (N : Nat) (uM uC : Nat → Nat) (iM : Nat → Int32) (sM : Nat → Nat → Int32) (iC : Nat → Int32) (tC : Nat → Nat → Int64) (sC : Nat → Nat → Int32) (p1 : Int32) (p2 : Int32) (p3 : Int32) {r : Int32} (hf : f_X4_whyNotBuy N iM sM iC tC sC p1 p2 p3 = some r) : CI l G yX4_whyNotBuy cX4_whyNotBuy 4 .int 3 [.ref (uM 0), .int p1, .int p2, .int p3] (gM G uM (uC 0) iM sM ++ gC G uC iC tC sC) r (gM G uM (uC 0) iM sM ++ gC G uC iC tC sC) := by
  refine CI.of (by decide) (Nat.le_of_ble_eq_true rfl) ?_
  intro p e s m args below meth c A X hA hP hD hS ls hl
  have hl : lv_has ls 4 [(0, .ref (uM 0)), (1, .int p1), (2, .int p2), (3, .int p3)] := hl
  generalize hQ : MQ below (QI G A r (gM G uM (uC 0) iM sM ++ gC G uC iC tC sC)) args s 0 0 A = QQ
  unfold f_X4_whyNotBuy at hf
  refine lv_iload_n X.hx X.hb dX4_whyNotBuy_0 rfl (lv_at hl 1 rfl) ?_
  refine lv_iload_n X.hx X.hb dX4_whyNotBuy_1 rfl (lv_at hl 3 rfl) ?_
  refine lv_icmp_ne (tgt := 7) X.hx X.hb dX4_whyNotBuy_2 (by decide) (fun hc_1 => ?_) (fun hc_1 => ?_)
  · replace hf := if_f hf hc_1
    refine lv_aload_n X.hx X.hb dX4_whyNotBuy_7 rfl (lv_at hl 0 rfl) ?_
    refine gf_X4_62 X hP 0 rfl (v := .int (iM 2)) rfl dX4_whyNotBuy_8 ?_
    refine lv_iload_n X.hx X.hb dX4_whyNotBuy_11 rfl (lv_at hl 1 rfl) ?_
    obtain ⟨r_2, hc_3, hf⟩ := bd_i hf
    refine r_cn0 (As := [.int (iM 2), .int p1]) (rest := []) X sm_X4_108 (c_X10_has l G N (iM 2) p1 hc_3) hP hD hS hA rfl hl.1 (lv_room (Nat.le_of_ble_eq_true rfl)) ⟨Nat.le_of_ble_eq_true rfl, Nat.le_of_ble_eq_true rfl⟩ ⟨Nat.zero_le _, Nat.zero_le _⟩ dX4_whyNotBuy_12 (fun H locs hP hD hS => ?_)
    refine lv_if_ne (tgt := 29) X.hx X.hb dX4_whyNotBuy_15 (by decide) (fun hc_4 => ?_) (fun hc_4 => ?_)
    · replace hf := if_f hf hc_4
      refine lv_iconst (v := 2) X.hx X.hb dX4_whyNotBuy_29 (by decide) ?_
      cases hf
      subst hQ
      exact r_iret X hP hD hS dX4_whyNotBuy_30
    · replace hf := if_t hf hc_4
      refine lv_aload_n X.hx X.hb dX4_whyNotBuy_18 rfl (lv_at hl 0 rfl) ?_
      refine gf_X4_62 X hP 0 rfl (v := .int (iM 2)) rfl dX4_whyNotBuy_19 ?_
      refine lv_iload_n X.hx X.hb dX4_whyNotBuy_22 rfl (lv_at hl 3 rfl) ?_
      obtain ⟨r_5, hc_6, hf⟩ := bd_i hf
      refine r_cn0 (As := [.int (iM 2), .int p3]) (rest := []) X sm_X4_108 (c_X10_has l G N (iM 2) p3 hc_6) hP hD hS hA rfl hl.1 (lv_room (Nat.le_of_ble_eq_true rfl)) ⟨Nat.le_of_ble_eq_true rfl, Nat.le_of_ble_eq_true rfl⟩ ⟨Nat.zero_le _, Nat.zero_le _⟩ dX4_whyNotBuy_23 (fun H locs hP hD hS => ?_)
      refine lv_if_eq (tgt := 31) X.hx X.hb dX4_whyNotBuy_26 (by decide) (fun hc_7 => ?_) (fun hc_7 => ?_)
      · replace hf := if_t hf hc_7
        refine lv_aload_n X.hx X.hb dX4_whyNotBuy_31 rfl (lv_at hl 0 rfl) ?_
        refine lv_iload_n X.hx X.hb dX4_whyNotBuy_32 rfl (lv_at hl 1 rfl) ?_
        obtain ⟨r_8, hc_9, hf⟩ := bd_i hf
        refine r_cvi (As := [.int p1]) (rest := []) X sm_X4_112 (c_X4_dealable l G N uM uC iM sM iC tC sC p1 hc_9) hP hD hS hA 0 rfl rfl [0, 1, 2, 3, 4, 5, 6, 7, 8, 9, 10, 11, 12, 13, 14] rfl rfl rfl (wo := (gM G uM (uC 0) iM sM ++ gC G uC iC tC sC)) rfl rfl hl.1 (lv_room (Nat.le_of_ble_eq_true rfl)) ⟨Nat.le_of_ble_eq_true rfl, Nat.le_of_ble_eq_true rfl⟩ ⟨Nat.zero_le _, Nat.zero_le _⟩ dX4_whyNotBuy_33 (fun H locs hP hD hS => ?_)
        refine lv_iload_n X.hx X.hb dX4_whyNotBuy_36 rfl (lv_at hl 3 rfl) ?_
        obtain ⟨r_10, hc_11, hf⟩ := bd_i hf
        refine r_cn0 (As := [.int r_8, .int p3]) (rest := []) X sm_X4_108 (c_X10_has l G N r_8 p3 hc_11) hP hD hS hA rfl hl.1 (lv_room (Nat.le_of_ble_eq_true rfl)) ⟨Nat.le_of_ble_eq_true rfl, Nat.le_of_ble_eq_true rfl⟩ ⟨Nat.zero_le _, Nat.zero_le _⟩ dX4_whyNotBuy_37 (fun H locs hP hD hS => ?_)
        obtain ⟨K_12, eK_14, hf⟩ := jn_i hf
        have hj_13 : ∀ (H : Heap) (locs : List Loc) (ls : Array Slot), K_12 () = some r → va_P G.1 vwCl (gM G uM (uC 0) iM sM ++ gC G uC iC tC sC) H → va_D A (gM G uM (uC 0) iM sM ++ gC G uC iC tC sC) → va_S A s.heap H locs → lv_has ls 4 [(0, .ref (uM 0)), (1, .int p1), (2, .int p2), (3, .int p3)] → W p l e (RM 3) s m args below meth c H locs 0 0 QQ (F0 m 67 ls []) := by
          intro  H locs ls hf hP hD hS hl
          rw [eK_14] at hf
          try dsimp only at hf
          refine lv_aload_n X.hx X.hb dX4_whyNotBuy_67 rfl (lv_at hl 0 rfl) ?_
          refine gf_X4_21 X hP 0 rfl (v := .ref (uM 10)) rfl dX4_whyNotBuy_68 ?_
          refine lv_iload_n X.hx X.hb dX4_whyNotBuy_71 rfl (lv_at hl 3 rfl) ?_
          refine lv_iload_n X.hx X.hb dX4_whyNotBuy_72 rfl (lv_at hl 2 rfl) ?_
          obtain ⟨r_15, hc_16, hf⟩ := bd_i hf
          refine r_cn0 (As := [.int p3, .int p2]) (rest := [.ref (uM 10)]) X sm_X4_90 (c_X10_cellOf l G N p3 p2 hc_16) hP hD hS hA rfl hl.1 (lv_room (Nat.le_of_ble_eq_true rfl)) ⟨Nat.le_of_ble_eq_true rfl, Nat.le_of_ble_eq_true rfl⟩ ⟨Nat.zero_le _, Nat.zero_le _⟩ dX4_whyNotBuy_73 (fun H locs hP hD hS => ?_)
          obtain ⟨hi_17, hf⟩ := ck_i hf
          refine r_iald X hP 4 (f := (sM 9)) rfl hi_17 dX4_whyNotBuy_76 ?_
          refine lv_iconst (v := 1) X.hx X.hb dX4_whyNotBuy_77 (by decide) ?_
          refine lv_icmp_ge (tgt := 83) X.hx X.hb dX4_whyNotBuy_78 (by decide) (fun hc_18 => ?_) (fun hc_18 => ?_)
          · replace hf := if_t hf hc_18
            refine lv_aload_n X.hx X.hb dX4_whyNotBuy_83 rfl (lv_at hl 0 rfl) ?_
            refine gf_X4_30 X hP 0 rfl (v := .ref (uC 0)) rfl dX4_whyNotBuy_84 ?_
            refine gf_X4_94 X hP 7 rfl (v := .ref (uC 9)) rfl dX4_whyNotBuy_87 ?_
            refine lv_iload_n X.hx X.hb dX4_whyNotBuy_90 rfl (lv_at hl 3 rfl) ?_
            refine lv_iload_n X.hx X.hb dX4_whyNotBuy_91 rfl (lv_at hl 2 rfl) ?_
            obtain ⟨r_19, hc_20, hf⟩ := bd_i hf
            refine r_cn0 (As := [.int p3, .int p2]) (rest := [.ref (uC 9)]) X sm_X4_90 (c_X10_cellOf l G N p3 p2 hc_20) hP hD hS hA rfl hl.1 (lv_room (Nat.le_of_ble_eq_true rfl)) ⟨Nat.le_of_ble_eq_true rfl, Nat.le_of_ble_eq_true rfl⟩ ⟨Nat.zero_le _, Nat.zero_le _⟩ dX4_whyNotBuy_92 (fun H locs hP hD hS => ?_)
            obtain ⟨hi_21, hf⟩ := ck_i hf
            refine r_iald X hP 14 (f := (sC 8)) rfl hi_21 dX4_whyNotBuy_95 ?_
            refine lv_aload_n X.hx X.hb dX4_whyNotBuy_96 rfl (lv_at hl 0 rfl) ?_
            refine gf_X4_9 X hP 0 rfl (v := .ref (uM 7)) rfl dX4_whyNotBuy_97 ?_
            refine lv_iload_n X.hx X.hb dX4_whyNotBuy_100 rfl (lv_at hl 1 rfl) ?_
            obtain ⟨hi_22, hf⟩ := ck_i hf
            refine r_iald X hP 1 (f := (sM 6)) rfl hi_22 dX4_whyNotBuy_101 ?_
            refine lv_icmp_le (tgt := 107) X.hx X.hb dX4_whyNotBuy_102 (by decide) (fun hc_23 => ?_) (fun hc_23 => ?_)
            · replace hf := if_t hf hc_23
              refine lv_aload_n X.hx X.hb dX4_whyNotBuy_107 rfl (lv_at hl 0 rfl) ?_
              refine gf_X4_24 X hP 0 rfl (v := .ref (uM 11)) rfl dX4_whyNotBuy_108 ?_
              refine lv_iload_n X.hx X.hb dX4_whyNotBuy_111 rfl (lv_at hl 1 rfl) ?_
              refine lv_iload_n X.hx X.hb dX4_whyNotBuy_112 rfl (lv_at hl 2 rfl) ?_
              obtain ⟨r_24, hc_25, hf⟩ := bd_i hf
              refine r_cn0 (As := [.int p1, .int p2]) (rest := [.ref (uM 11)]) X sm_X4_90 (c_X10_cellOf l G N p1 p2 hc_25) hP hD hS hA rfl hl.1 (lv_room (Nat.le_of_ble_eq_true rfl)) ⟨Nat.le_of_ble_eq_true rfl, Nat.le_of_ble_eq_true rfl⟩ ⟨Nat.zero_le _, Nat.zero_le _⟩ dX4_whyNotBuy_113 (fun H locs hP hD hS => ?_)
              obtain ⟨hi_26, hf⟩ := ck_i hf
              refine r_iald X hP 5 (f := (sM 10)) rfl hi_26 dX4_whyNotBuy_116 ?_
              refine lv_iconst (v := 1) X.hx X.hb dX4_whyNotBuy_117 (by decide) ?_
              refine lv_icmp_ge (tgt := 126) X.hx X.hb dX4_whyNotBuy_118 (by decide) (fun hc_27 => ?_) (fun hc_27 => ?_)
              · replace hf := if_t hf hc_27
                refine lv_iconst (v := 0) X.hx X.hb dX4_whyNotBuy_126 (by decide) ?_
                cases hf
                subst hQ
                exact r_iret X hP hD hS dX4_whyNotBuy_127
              · replace hf := if_f hf hc_27
                refine lv_bipush (v := 6) X.hx X.hb dX4_whyNotBuy_121 (by decide) ?_
                refine lv_goto (tgt := 127) X.hx X.hb dX4_whyNotBuy_123 (by decide) ?_
                cases hf
                subst hQ
                exact r_iret X hP hD hS dX4_whyNotBuy_127
            · replace hf := if_f hf hc_23
              refine lv_iconst (v := 5) X.hx X.hb dX4_whyNotBuy_105 (by decide) ?_
              cases hf
              subst hQ
              exact r_iret X hP hD hS dX4_whyNotBuy_106
          · replace hf := if_f hf hc_18
            refine lv_iconst (v := 4) X.hx X.hb dX4_whyNotBuy_81 (by decide) ?_
            cases hf
            subst hQ
            exact r_iret X hP hD hS dX4_whyNotBuy_82
        refine lv_if_ne (tgt := 67) X.hx X.hb dX4_whyNotBuy_40 (by decide) (fun hc_28 => ?_) (fun hc_28 => ?_)
        · replace hf := if_f hf hc_28
          exact hj_13 _ _ _ hf hP hD hS (lv_sub hl [0, 1, 2, 3] rfl)
        · replace hf := if_t hf hc_28
          refine lv_aload_n X.hx X.hb dX4_whyNotBuy_43 rfl (lv_at hl 0 rfl) ?_
          refine gf_X4_65 X hP 0 rfl (v := .int (iM 3)) rfl dX4_whyNotBuy_44 ?_
          refine lv_iload_n X.hx X.hb dX4_whyNotBuy_47 rfl (lv_at hl 1 rfl) ?_
          obtain ⟨r_29, hc_30, hf⟩ := bd_i hf
          refine r_cn0 (As := [.int (iM 3), .int p1]) (rest := []) X sm_X4_108 (c_X10_has l G N (iM 3) p1 hc_30) hP hD hS hA rfl hl.1 (lv_room (Nat.le_of_ble_eq_true rfl)) ⟨Nat.le_of_ble_eq_true rfl, Nat.le_of_ble_eq_true rfl⟩ ⟨Nat.zero_le _, Nat.zero_le _⟩ dX4_whyNotBuy_48 (fun H locs hP hD hS => ?_)
          refine lv_if_ne (tgt := 67) X.hx X.hb dX4_whyNotBuy_51 (by decide) (fun hc_31 => ?_) (fun hc_31 => ?_)
          · replace hf := if_f hf hc_31
            exact hj_13 _ _ _ hf hP hD hS (lv_sub hl [0, 1, 2, 3] rfl)
          · replace hf := if_t hf hc_31
            refine lv_aload_n X.hx X.hb dX4_whyNotBuy_54 rfl (lv_at hl 0 rfl) ?_
            refine gf_X4_65 X hP 0 rfl (v := .int (iM 3)) rfl dX4_whyNotBuy_55 ?_
            refine lv_iload_n X.hx X.hb dX4_whyNotBuy_58 rfl (lv_at hl 3 rfl) ?_
            obtain ⟨r_32, hc_33, hf⟩ := bd_i hf
            refine r_cn0 (As := [.int (iM 3), .int p3]) (rest := []) X sm_X4_108 (c_X10_has l G N (iM 3) p3 hc_33) hP hD hS hA rfl hl.1 (lv_room (Nat.le_of_ble_eq_true rfl)) ⟨Nat.le_of_ble_eq_true rfl, Nat.le_of_ble_eq_true rfl⟩ ⟨Nat.zero_le _, Nat.zero_le _⟩ dX4_whyNotBuy_59 (fun H locs hP hD hS => ?_)
            refine lv_if_ne (tgt := 67) X.hx X.hb dX4_whyNotBuy_62 (by decide) (fun hc_34 => ?_) (fun hc_34 => ?_)
            · replace hf := if_f hf hc_34
              exact hj_13 _ _ _ hf hP hD hS (lv_sub hl [0, 1, 2, 3] rfl)
            · replace hf := if_t hf hc_34
              refine lv_iconst (v := 3) X.hx X.hb dX4_whyNotBuy_65 (by decide) ?_
              cases hf
              subst hQ
              exact r_iret X hP hD hS dX4_whyNotBuy_66
      · replace hf := if_f hf hc_7
        refine lv_iconst (v := 2) X.hx X.hb dX4_whyNotBuy_29 (by decide) ?_
        cases hf
        subst hQ
        exact r_iret X hP hD hS dX4_whyNotBuy_30
  · replace hf := if_t hf hc_1
    refine lv_iconst (v := 1) X.hx X.hb dX4_whyNotBuy_5 (by decide) ?_
    cases hf
    subst hQ
    exact r_iret X hP hD hS dX4_whyNotBuy_6

def f_X4_meet (N : Nat) (iM : Nat → Int32) (sM : Nat → Nat → Int32) (iC : Nat → Int32) (tC : Nat → Nat → Int64) (sC : Nat → Nat → Int32) (p1 : Int32) (p2 : Int32) : Option ((Nat → Nat → Int32)) :=
  ck p1 7 (ck p1 7 (nv (upd (sM 8) (ix p1) (((sM 8) (ix p1)) ||| ((1 : Int32) <<< (p2 &&& 31)))) (fun g_3 => ck p2 7 (ck p2 7 (nv (upd g_3 (ix p2) ((g_3 (ix p2)) ||| ((1 : Int32) <<< (p1 &&& 31)))) (fun g_6 => some (va_up sM 8 g_6)))))))
set_option maxHeartbeats 4000000 in
set_option maxRecDepth 100000 in
theorem c_X4_meet (l : Launch) (G : GT) (N : Nat) (uM uC : Nat → Nat) (iM : Nat → Int32) (sM : Nat → Nat → Int32) (iC : Nat → Int32) (tC : Nat → Nat → Int64) (sC : Nat → Nat → Int32) (p1 : Int32) (p2 : Int32) {sM' : Nat → Nat → Int32} (hf : f_X4_meet N iM sM iC tC sC p1 p2 = some sM') : CV l G yX4_meet cX4_meet 3 1 [.ref (uM 0), .int p1, .int p2] (gM G uM (uC 0) iM sM ++ gC G uC iC tC sC) (gM G uM (uC 0) iM sM' ++ gC G uC iC tC sC) := by
  refine CV.of (by decide) (Nat.le_of_ble_eq_true rfl) ?_
  intro p e s m args below meth c A X hA hP hD hS ls hl
  have hl : lv_has ls 3 [(0, .ref (uM 0)), (1, .int p1), (2, .int p2)] := hl
  generalize hQ : MQ below (QV G A (gM G uM (uC 0) iM sM' ++ gC G uC iC tC sC)) args s 0 0 A = QQ
  unfold f_X4_meet at hf
  refine lv_aload_n X.hx X.hb dX4_meet_0 rfl (lv_at hl 0 rfl) ?_
  refine gf_X4_18 X hP 0 rfl (v := .ref (uM 9)) rfl dX4_meet_1 ?_
  refine lv_iload_n X.hx X.hb dX4_meet_4 rfl (lv_at hl 1 rfl) ?_
  refine lv_dup2_11 X.hx X.hb dX4_meet_5 rfl rfl ?_
  obtain ⟨hi_1, hf⟩ := ck_i hf
  refine r_iald X hP 3 (f := (sM 8)) rfl hi_1 dX4_meet_6 ?_
  refine lv_iconst (v := 1) X.hx X.hb dX4_meet_7 (by decide) ?_
  refine lv_iload_n X.hx X.hb dX4_meet_8 rfl (lv_at hl 2 rfl) ?_
  refine lv_ishl X.hx X.hb dX4_meet_9 ?_
  refine lv_ior X.hx X.hb dX4_meet_10 ?_
  obtain ⟨hi_2, hf⟩ := ck_i hf
  obtain ⟨g_3, eg_3, hf⟩ := nv_i hf
  refine r_iast X hP hD hS 3 (f := (sM 8)) rfl hi_2 (wo := (gM G uM (uC 0) iM (va_up sM 8 g_3) ++ gC G uC iC tC sC)) (by subst eg_3; rfl) dX4_meet_11 (fun H locs hP hD hS => ?_)
  refine lv_aload_n X.hx X.hb dX4_meet_12 rfl (lv_at hl 0 rfl) ?_
  refine gf_X4_18 X hP 0 rfl (v := .ref (uM 9)) rfl dX4_meet_13 ?_
  refine lv_iload_n X.hx X.hb dX4_meet_16 rfl (lv_at hl 2 rfl) ?_
  refine lv_dup2_11 X.hx X.hb dX4_meet_17 rfl rfl ?_
  obtain ⟨hi_4, hf⟩ := ck_i hf
  refine r_iald X hP 3 (f := g_3) rfl hi_4 dX4_meet_18 ?_
  refine lv_iconst (v := 1) X.hx X.hb dX4_meet_19 (by decide) ?_
  refine lv_iload_n X.hx X.hb dX4_meet_20 rfl (lv_at hl 1 rfl) ?_
  refine lv_ishl X.hx X.hb dX4_meet_21 ?_
  refine lv_ior X.hx X.hb dX4_meet_22 ?_
  obtain ⟨hi_5, hf⟩ := ck_i hf
  obtain ⟨g_6, eg_6, hf⟩ := nv_i hf
  refine r_iast X hP hD hS 3 (f := g_3) rfl hi_5 (wo := (gM G uM (uC 0) iM (va_up sM 8 g_6) ++ gC G uC iC tC sC)) (by subst eg_6; rfl) dX4_meet_23 (fun H locs hP hD hS => ?_)
  cases hf
  subst hQ
  exact r_vret X hP hD hS dX4_meet_24

def f_X4_doBuy (N : Nat) (iM : Nat → Int32) (sM : Nat → Nat → Int32) (iC : Nat → Int32) (tC : Nat → Nat → Int64) (sC : Nat → Nat → Int32) (p1 : Int32) (p2 : Int32) (p3 : Int32) : Option ((Nat → Int32) × (Nat → Nat → Int32)) :=
  bd (f_X10_cellOf N p3 p2) (fun r_1 => ck r_1 35 (bd (f_X10_cellOf N p3 p2) (fun r_4 => ck r_4 35 (ck r_4 35 (nv (upd (sM 9) (ix r_4) (((sM 9) (ix r_4)) - 1)) (fun g_8 => bd (f_X10_cellOf N p1 p2) (fun r_9 => ck r_9 35 (ck r_9 35 (nv (upd (sM 10) (ix r_9) (((sM 10) (ix r_9)) - 1)) (fun g_13 => ck p1 7 (ck p1 7 (nv (upd (sM 6) (ix p1) (((sM 6) (ix p1)) - ((sC 8) (ix r_1)))) (fun g_16 => ck p3 7 (ck p3 7 (nv (upd g_16 (ix p3) ((g_16 (ix p3)) + ((sC 8) (ix r_1)))) (fun g_19 => bd (f_X10_has N (iM 3) p1) (fun r_20 => (if r_20 = 0 then bd (f_X10_has N (iM 3) p3) (fun r_23 => (if r_23 = 0 then bd (f_X10_pairOf N p1 p3) (fun r_26 => ck r_26 49 (ck r_26 49 (nv (upd (sM 11) (ix r_26) (((sM 11) (ix r_26)) + 1)) (fun g_30 => bd (f_X10_pairOf N p3 p1) (fun r_31 => ck r_31 49 (ck r_31 49 (nv (upd g_30 (ix r_31) ((g_30 (ix r_31)) + 1)) (fun g_35 => bd (f_X10_pairOf N p1 p3) (fun r_36 => ck r_36 49 ((if (g_35 (ix r_36)) < (iC 9) then some ((va_up iM 5 ((iM 5) + 1)), (va_up (va_up (va_up (va_up sM 9 g_8) 10 g_13) 6 g_19) 11 g_35)) else bd (f_X4_meet N (va_up iM 5 ((iM 5) + 1)) (va_up (va_up (va_up (va_up sM 9 g_8) 10 g_13) 6 g_19) 11 g_35) iC tC sC p1 p3) (fun sM_40 => some ((va_up iM 5 ((iM 5) + 1)), sM_40))))))))))))) else some ((va_up iM 5 ((iM 5) + 1)), (va_up (va_up (va_up sM 9 g_8) 10 g_13) 6 g_19)))) else some ((va_up iM 5 ((iM 5) + 1)), (va_up (va_up (va_up sM 9 g_8) 10 g_13) 6 g_19))))))))))))))))))))
set_option maxHeartbeats 4000000 in
set_option maxRecDepth 100000 in
theorem c_X4_doBuy (l : Launch) (G : GT) (N : Nat) (uM uC : Nat → Nat) (iM : Nat → Int32) (sM : Nat → Nat → Int32) (iC : Nat → Int32) (tC : Nat → Nat → Int64) (sC : Nat → Nat → Int32) (p1 : Int32) (p2 : Int32) (p3 : Int32) {iM' : Nat → Int32} {sM' : Nat → Nat → Int32} (hf : f_X4_doBuy N iM sM iC tC sC p1 p2 p3 = some (iM', sM')) : CV l G yX4_doBuy cX4_doBuy 5 2 [.ref (uM 0), .int p1, .int p2, .int p3] (gM G uM (uC 0) iM sM ++ gC G uC iC tC sC) (gM G uM (uC 0) iM' sM' ++ gC G uC iC tC sC) := by
  refine CV.of (by decide) (Nat.le_of_ble_eq_true rfl) ?_
  intro p e s m args below meth c A X hA hP hD hS ls hl
  have hl : lv_has ls 5 [(0, .ref (uM 0)), (1, .int p1), (2, .int p2), (3, .int p3)] := hl
  generalize hQ : MQ below (QV G A (gM G uM (uC 0) iM' sM' ++ gC G uC iC tC sC)) args s 0 0 A = QQ
  unfold f_X4_doBuy at hf
  refine lv_aload_n X.hx X.hb dX4_doBuy_0 rfl (lv_at hl 0 rfl) ?_
  refine gf_X4_30 X hP 0 rfl (v := .ref (uC 0)) rfl dX4_doBuy_1 ?_
  refine gf_X4_94 X hP 7 rfl (v := .ref (uC 9)) rfl dX4_doBuy_4 ?_
  refine lv_iload_n X.hx X.hb dX4_doBuy_7 rfl (lv_at hl 3 rfl) ?_
  refine lv_iload_n X.hx X.hb dX4_doBuy_8 rfl (lv_at hl 2 rfl) ?_
  obtain ⟨r_1, hc_2, hf⟩ := bd_i hf
  refine r_cn0 (As := [.int p3, .int p2]) (rest := [.ref (uC 9)]) X sm_X4_90 (c_X10_cellOf l G N p3 p2 hc_2) hP hD hS hA rfl hl.1 (lv_room (Nat.le_of_ble_eq_true rfl)) ⟨Nat.le_of_ble_eq_true rfl, Nat.le_of_ble_eq_true rfl⟩ ⟨Nat.zero_le _, Nat.zero_le _⟩ dX4_doBuy_9 (fun H locs hP hD hS => ?_)
  obtain ⟨hi_3, hf⟩ := ck_i hf
  refine r_iald X hP 14 (f := (sC 8)) rfl hi_3 dX4_doBuy_12 ?_
  refine lv_istore (lv' := [(4, .int ((sC 8) (ix r_1))), (0, .ref (uM 0)), (1, .int p1), (2, .int p2), (3, .int p3)]) X.hx X.hb dX4_doBuy_13 hl (by decide) rfl (fun ls hl => ?_)
  refine lv_aload_n X.hx X.hb dX4_doBuy_15 rfl (lv_at hl 1 rfl) ?_
  refine gf_X4_21 X hP 0 rfl (v := .ref (uM 10)) rfl dX4_doBuy_16 ?_
  refine lv_iload_n X.hx X.hb dX4_doBuy_19 rfl (lv_at hl 4 rfl) ?_
  refine lv_iload_n X.hx X.hb dX4_doBuy_20 rfl (lv_at hl 3 rfl) ?_
  obtain ⟨r_4, hc_5, hf⟩ := bd_i hf
  refine r_cn0 (As := [.int p3, .int p2]) (rest := [.ref (uM 10)]) X sm_X4_90 (c_X10_cellOf l G N p3 p2 hc_5) hP hD hS hA rfl hl.1 (lv_room (Nat.le_of_ble_eq_true rfl)) ⟨Nat.le_of_ble_eq_true rfl, Nat.le_of_ble_eq_true rfl⟩ ⟨Nat.zero_le _, Nat.zero_le _⟩ dX4_doBuy_21 (fun H locs hP hD hS => ?_)
  refine lv_dup2_11 X.hx X.hb dX4_doBuy_24 rfl rfl ?_
  obtain ⟨hi_6, hf⟩ := ck_i hf
  refine r_iald X hP 4 (f := (sM 9)) rfl hi_6 dX4_doBuy_25 ?_
  refine lv_iconst (v := 1) X.hx X.hb dX4_doBuy_26 (by decide) ?_
  refine lv_isub X.hx X.hb dX4_doBuy_27 ?_
  obtain ⟨hi_7, hf⟩ := ck_i hf
  obtain ⟨g_8, eg_8, hf⟩ := nv_i hf
  refine r_iast X hP hD hS 4 (f := (sM 9)) rfl hi_7 (wo := (gM G uM (uC 0) iM (va_up sM 9 g_8) ++ gC G uC iC tC sC)) (by subst eg_8; rfl) dX4_doBuy_28 (fun H locs hP hD hS => ?_)
  refine lv_aload_n X.hx X.hb dX4_doBuy_29 rfl (lv_at hl 1 rfl) ?_
  refine gf_X4_24 X hP 0 rfl (v := .ref (uM 11)) rfl dX4_doBuy_30 ?_
  refine lv_iload_n X.hx X.hb dX4_doBuy_33 rfl (lv_at hl 2 rfl) ?_
  refine lv_iload_n X.hx X.hb dX4_doBuy_34 rfl (lv_at hl 3 rfl) ?_
  obtain ⟨r_9, hc_10, hf⟩ := bd_i hf
  refine r_cn0 (As := [.int p1, .int p2]) (rest := [.ref (uM 11)]) X sm_X4_90 (c_X10_cellOf l G N p1 p2 hc_10) hP hD hS hA rfl hl.1 (lv_room (Nat.le_of_ble_eq_true rfl)) ⟨Nat.le_of_ble_eq_true rfl, Nat.le_of_ble_eq_true rfl⟩ ⟨Nat.zero_le _, Nat.zero_le _⟩ dX4_doBuy_35 (fun H locs hP hD hS => ?_)
  refine lv_dup2_11 X.hx X.hb dX4_doBuy_38 rfl rfl ?_
  obtain ⟨hi_11, hf⟩ := ck_i hf
  refine r_iald X hP 5 (f := (sM 10)) rfl hi_11 dX4_doBuy_39 ?_
  refine lv_iconst (v := 1) X.hx X.hb dX4_doBuy_40 (by decide) ?_
  refine lv_isub X.hx X.hb dX4_doBuy_41 ?_
  obtain ⟨hi_12, hf⟩ := ck_i hf
  obtain ⟨g_13, eg_13, hf⟩ := nv_i hf
  refine r_iast X hP hD hS 5 (f := (sM 10)) rfl hi_12 (wo := (gM G uM (uC 0) iM (va_up (va_up sM 9 g_8) 10 g_13) ++ gC G uC iC tC sC)) (by subst eg_13; rfl) dX4_doBuy_42 (fun H locs hP hD hS => ?_)
  refine lv_aload_n X.hx X.hb dX4_doBuy_43 rfl (lv_at hl 1 rfl) ?_
  refine gf_X4_9 X hP 0 rfl (v := .ref (uM 7)) rfl dX4_doBuy_44 ?_
  refine lv_iload_n X.hx X.hb dX4_doBuy_47 rfl (lv_at hl 2 rfl) ?_
  refine lv_dup2_11 X.hx X.hb dX4_doBuy_48 rfl rfl ?_
  obtain ⟨hi_14, hf⟩ := ck_i hf
  refine r_iald X hP 1 (f := (sM 6)) rfl hi_14 dX4_doBuy_49 ?_
  refine lv_iload X.hx X.hb dX4_doBuy_50 (lv_at hl 0 rfl) ?_
  refine lv_isub X.hx X.hb dX4_doBuy_52 ?_
  obtain ⟨hi_15, hf⟩ := ck_i hf
  obtain ⟨g_16, eg_16, hf⟩ := nv_i hf
  refine r_iast X hP hD hS 1 (f := (sM 6)) rfl hi_15 (wo := (gM G uM (uC 0) iM (va_up (va_up (va_up sM 9 g_8) 10 g_13) 6 g_16) ++ gC G uC iC tC sC)) (by subst eg_16; rfl) dX4_doBuy_53 (fun H locs hP hD hS => ?_)
  refine lv_aload_n X.hx X.hb dX4_doBuy_54 rfl (lv_at hl 1 rfl) ?_
  refine gf_X4_9 X hP 0 rfl (v := .ref (uM 7)) rfl dX4_doBuy_55 ?_
  refine lv_iload_n X.hx X.hb dX4_doBuy_58 rfl (lv_at hl 4 rfl) ?_
  refine lv_dup2_11 X.hx X.hb dX4_doBuy_59 rfl rfl ?_
  obtain ⟨hi_17, hf⟩ := ck_i hf
  refine r_iald X hP 1 (f := g_16) rfl hi_17 dX4_doBuy_60 ?_
  refine lv_iload X.hx X.hb dX4_doBuy_61 (lv_at hl 0 rfl) ?_
  refine lv_iadd X.hx X.hb dX4_doBuy_63 ?_
  obtain ⟨hi_18, hf⟩ := ck_i hf
  obtain ⟨g_19, eg_19, hf⟩ := nv_i hf
  refine r_iast X hP hD hS 1 (f := g_16) rfl hi_18 (wo := (gM G uM (uC 0) iM (va_up (va_up (va_up sM 9 g_8) 10 g_13) 6 g_19) ++ gC G uC iC tC sC)) (by subst eg_19; rfl) dX4_doBuy_64 (fun H locs hP hD hS => ?_)
  refine lv_aload_n X.hx X.hb dX4_doBuy_65 rfl (lv_at hl 1 rfl) ?_
  refine lv_dup X.hx X.hb dX4_doBuy_66 rfl ?_
  refine gf_X4_38 X hP 0 rfl (v := .int (iM 5)) rfl dX4_doBuy_67 ?_
  refine lv_iconst (v := 1) X.hx X.hb dX4_doBuy_70 (by decide) ?_
  refine lv_iadd X.hx X.hb dX4_doBuy_71 ?_
  refine pf_X4_38 X hP hD hS 0 rfl rfl rfl (Nat.le_of_ble_eq_true rfl) (wo := (gM G uM (uC 0) (va_up iM 5 ((iM 5) + 1)) (va_up (va_up (va_up sM 9 g_8) 10 g_13) 6 g_19) ++ gC G uC iC tC sC)) rfl dX4_doBuy_72 (fun H locs hP hD hS => ?_)
  refine lv_aload_n X.hx X.hb dX4_doBuy_75 rfl (lv_at hl 1 rfl) ?_
  refine gf_X4_65 X hP 0 rfl (v := .int (iM 3)) rfl dX4_doBuy_76 ?_
  refine lv_iload_n X.hx X.hb dX4_doBuy_79 rfl (lv_at hl 2 rfl) ?_
  obtain ⟨r_20, hc_21, hf⟩ := bd_i hf
  refine r_cn0 (As := [.int (iM 3), .int p1]) (rest := []) X sm_X4_108 (c_X10_has l G N (iM 3) p1 hc_21) hP hD hS hA rfl hl.1 (lv_room (Nat.le_of_ble_eq_true rfl)) ⟨Nat.le_of_ble_eq_true rfl, Nat.le_of_ble_eq_true rfl⟩ ⟨Nat.zero_le _, Nat.zero_le _⟩ dX4_doBuy_80 (fun H locs hP hD hS => ?_)
  refine lv_if_ne (tgt := 97) X.hx X.hb dX4_doBuy_83 (by decide) (fun hc_22 => ?_) (fun hc_22 => ?_)
  · replace hf := if_f hf hc_22
    cases hf
    subst hQ
    exact r_vret X hP hD hS dX4_doBuy_97
  · replace hf := if_t hf hc_22
    refine lv_aload_n X.hx X.hb dX4_doBuy_86 rfl (lv_at hl 1 rfl) ?_
    refine gf_X4_65 X hP 0 rfl (v := .int (iM 3)) rfl dX4_doBuy_87 ?_
    refine lv_iload_n X.hx X.hb dX4_doBuy_90 rfl (lv_at hl 4 rfl) ?_
    obtain ⟨r_23, hc_24, hf⟩ := bd_i hf
    refine r_cn0 (As := [.int (iM 3), .int p3]) (rest := []) X sm_X4_108 (c_X10_has l G N (iM 3) p3 hc_24) hP hD hS hA rfl hl.1 (lv_room (Nat.le_of_ble_eq_true rfl)) ⟨Nat.le_of_ble_eq_true rfl, Nat.le_of_ble_eq_true rfl⟩ ⟨Nat.zero_le _, Nat.zero_le _⟩ dX4_doBuy_91 (fun H locs hP hD hS => ?_)
    refine lv_if_eq (tgt := 98) X.hx X.hb dX4_doBuy_94 (by decide) (fun hc_25 => ?_) (fun hc_25 => ?_)
    · replace hf := if_t hf hc_25
      refine lv_aload_n X.hx X.hb dX4_doBuy_98 rfl (lv_at hl 1 rfl) ?_
      refine gf_X4_27 X hP 0 rfl (v := .ref (uM 12)) rfl dX4_doBuy_99 ?_
      refine lv_iload_n X.hx X.hb dX4_doBuy_102 rfl (lv_at hl 2 rfl) ?_
      refine lv_iload_n X.hx X.hb dX4_doBuy_103 rfl (lv_at hl 4 rfl) ?_
      obtain ⟨r_26, hc_27, hf⟩ := bd_i hf
      refine r_cn0 (As := [.int p1, .int p3]) (rest := [.ref (uM 12)]) X sm_X4_115 (c_X10_pairOf l G N p1 p3 hc_27) hP hD hS hA rfl hl.1 (lv_room (Nat.le_of_ble_eq_true rfl)) ⟨Nat.le_of_ble_eq_true rfl, Nat.le_of_ble_eq_true rfl⟩ ⟨Nat.zero_le _, Nat.zero_le _⟩ dX4_doBuy_104 (fun H locs hP hD hS => ?_)
      refine lv_dup2_11 X.hx X.hb dX4_doBuy_107 rfl rfl ?_
      obtain ⟨hi_28, hf⟩ := ck_i hf
      refine r_iald X hP 6 (f := (sM 11)) rfl hi_28 dX4_doBuy_108 ?_
      refine lv_iconst (v := 1) X.hx X.hb dX4_doBuy_109 (by decide) ?_
      refine lv_iadd X.hx X.hb dX4_doBuy_110 ?_
      obtain ⟨hi_29, hf⟩ := ck_i hf
      obtain ⟨g_30, eg_30, hf⟩ := nv_i hf
      refine r_iast X hP hD hS 6 (f := (sM 11)) rfl hi_29 (wo := (gM G uM (uC 0) (va_up iM 5 ((iM 5) + 1)) (va_up (va_up (va_up (va_up sM 9 g_8) 10 g_13) 6 g_19) 11 g_30) ++ gC G uC iC tC sC)) (by subst eg_30; rfl) dX4_doBuy_111 (fun H locs hP hD hS => ?_)
      refine lv_aload_n X.hx X.hb dX4_doBuy_112 rfl (lv_at hl 1 rfl) ?_
      refine gf_X4_27 X hP 0 rfl (v := .ref (uM 12)) rfl dX4_doBuy_113 ?_
      refine lv_iload_n X.hx X.hb dX4_doBuy_116 rfl (lv_at hl 4 rfl) ?_
      refine lv_iload_n X.hx X.hb dX4_doBuy_117 rfl (lv_at hl 2 rfl) ?_
      obtain ⟨r_31, hc_32, hf⟩ := bd_i hf
      refine r_cn0 (As := [.int p3, .int p1]) (rest := [.ref (uM 12)]) X sm_X4_115 (c_X10_pairOf l G N p3 p1 hc_32) hP hD hS hA rfl hl.1 (lv_room (Nat.le_of_ble_eq_true rfl)) ⟨Nat.le_of_ble_eq_true rfl, Nat.le_of_ble_eq_true rfl⟩ ⟨Nat.zero_le _, Nat.zero_le _⟩ dX4_doBuy_118 (fun H locs hP hD hS => ?_)
      refine lv_dup2_11 X.hx X.hb dX4_doBuy_121 rfl rfl ?_
      obtain ⟨hi_33, hf⟩ := ck_i hf
      refine r_iald X hP 6 (f := g_30) rfl hi_33 dX4_doBuy_122 ?_
      refine lv_iconst (v := 1) X.hx X.hb dX4_doBuy_123 (by decide) ?_
      refine lv_iadd X.hx X.hb dX4_doBuy_124 ?_
      obtain ⟨hi_34, hf⟩ := ck_i hf
      obtain ⟨g_35, eg_35, hf⟩ := nv_i hf
      refine r_iast X hP hD hS 6 (f := g_30) rfl hi_34 (wo := (gM G uM (uC 0) (va_up iM 5 ((iM 5) + 1)) (va_up (va_up (va_up (va_up sM 9 g_8) 10 g_13) 6 g_19) 11 g_35) ++ gC G uC iC tC sC)) (by subst eg_35; rfl) dX4_doBuy_125 (fun H locs hP hD hS => ?_)
      refine lv_aload_n X.hx X.hb dX4_doBuy_126 rfl (lv_at hl 1 rfl) ?_
      refine gf_X4_27 X hP 0 rfl (v := .ref (uM 12)) rfl dX4_doBuy_127 ?_
      refine lv_iload_n X.hx X.hb dX4_doBuy_130 rfl (lv_at hl 2 rfl) ?_
      refine lv_iload_n X.hx X.hb dX4_doBuy_131 rfl (lv_at hl 4 rfl) ?_
      obtain ⟨r_36, hc_37, hf⟩ := bd_i hf
      refine r_cn0 (As := [.int p1, .int p3]) (rest := [.ref (uM 12)]) X sm_X4_115 (c_X10_pairOf l G N p1 p3 hc_37) hP hD hS hA rfl hl.1 (lv_room (Nat.le_of_ble_eq_true rfl)) ⟨Nat.le_of_ble_eq_true rfl, Nat.le_of_ble_eq_true rfl⟩ ⟨Nat.zero_le _, Nat.zero_le _⟩ dX4_doBuy_132 (fun H locs hP hD hS => ?_)
      obtain ⟨hi_38, hf⟩ := ck_i hf
      refine r_iald X hP 6 (f := g_35) rfl hi_38 dX4_doBuy_135 ?_
      refine lv_aload_n X.hx X.hb dX4_doBuy_136 rfl (lv_at hl 1 rfl) ?_
      refine gf_X4_30 X hP 0 rfl (v := .ref (uC 0)) rfl dX4_doBuy_137 ?_
      refine gf_X4_118 X hP 7 rfl (v := .int (iC 9)) rfl dX4_doBuy_140 ?_
      refine lv_icmp_lt (tgt := 152) X.hx X.hb dX4_doBuy_143 (by decide) (fun hc_39 => ?_) (fun hc_39 => ?_)
      · replace hf := if_t hf hc_39
        cases hf
        subst hQ
        exact r_vret X hP hD hS dX4_doBuy_152
      · replace hf := if_f hf hc_39
        refine lv_aload_n X.hx X.hb dX4_doBuy_146 rfl (lv_at hl 1 rfl) ?_
        refine lv_iload_n X.hx X.hb dX4_doBuy_147 rfl (lv_at hl 2 rfl) ?_
        refine lv_iload_n X.hx X.hb dX4_doBuy_148 rfl (lv_at hl 4 rfl) ?_
        obtain ⟨sM_40, hc_41, hf⟩ := bd_i hf
        refine r_cvv (As := [.int p1, .int p3]) (rest := []) X sm_X4_120 (c_X4_meet l G N uM uC (va_up iM 5 ((iM 5) + 1)) (va_up (va_up (va_up (va_up sM 9 g_8) 10 g_13) 6 g_19) 11 g_35) iC tC sC p1 p3 hc_41) hP hD hS hA 0 rfl rfl [0, 1, 2, 3, 4, 5, 6, 7, 8, 9, 10, 11, 12, 13, 14] rfl rfl rfl (wo := (gM G uM (uC 0) (va_up iM 5 ((iM 5) + 1)) sM_40 ++ gC G uC iC tC sC)) rfl rfl hl.1 (lv_room (Nat.le_of_ble_eq_true rfl)) ⟨Nat.le_of_ble_eq_true rfl, Nat.le_of_ble_eq_true rfl⟩ ⟨Nat.zero_le _, Nat.zero_le _⟩ dX4_doBuy_149 (fun H locs hP hD hS => ?_)
        cases hf
        subst hQ
        exact r_vret X hP hD hS dX4_doBuy_152
    · replace hf := if_f hf hc_25
      cases hf
      subst hQ
      exact r_vret X hP hD hS dX4_doBuy_97

def f_X4_isSoldOut_7 (N : Nat) (iM : Nat → Int32) (sM : Nat → Nat → Int32) (iC : Nat → Int32) (tC : Nat → Nat → Int64) (sC : Nat → Nat → Int32) (v1 : Int32) (K_1 : ((Int32) × (Int32)) → Option (Int32)) : Nat → (Int32) → (Int32) → (Int32) → Option (Int32)
  | 0, _, _, _ => none
  | k + 1, v2, v3, v4 => (if (5 : Int32) ≤ v4 then K_1 (v2, v3) else jn (fun (z : (Int32)) => match z with | y_33 => bd (f_X10_cellOf N v1 v4) (fun r_34 => ck r_34 35 (nv (v3 + ((sM 9) (ix r_34))) (fun n_37 => f_X4_isSoldOut_7 N iM sM iC tC sC v1 K_1 k y_33 n_37 (v4 + 1))))) (fun K_30 =>
  jn (fun (z : Unit) => match z with | () => K_30 1) (fun K_38 =>
  (if v2 = 0 then bd (f_X10_cellOf N v1 v4) (fun r_42 => ck r_42 35 ((if ((sC 8) (ix r_42)) = (-1) then K_30 0 else K_38 ()))) else K_38 ()))))
def f_X4_isSoldOut (N : Nat) (iM : Nat → Int32) (sM : Nat → Nat → Int32) (iC : Nat → Int32) (tC : Nat → Nat → Int64) (sC : Nat → Nat → Int32) (p1 : Int32) : Option (Int32) :=
  jn (fun (z : (Int32) × (Int32)) => match z with | (x2_4, x3_5) => (if x2_4 = 0 then some 0 else (if x3_5 = 0 then some 1 else some 0))) (fun K_1 =>
  f_X4_isSoldOut_7 N iM sM iC tC sC p1 K_1 N 0 0 0)
set_option maxHeartbeats 4000000 in
set_option maxRecDepth 100000 in
theorem c_X4_isSoldOut (l : Launch) (G : GT) (N : Nat) (uM uC : Nat → Nat) (iM : Nat → Int32) (sM : Nat → Nat → Int32) (iC : Nat → Int32) (tC : Nat → Nat → Int64) (sC : Nat → Nat → Int32) (p1 : Int32) {r : Int32} (hf : f_X4_isSoldOut N iM sM iC tC sC p1 = some r) : CI l G yX4_isSoldOut cX4_isSoldOut 5 .boolean 2 [.ref (uM 0), .int p1] (gM G uM (uC 0) iM sM ++ gC G uC iC tC sC) r (gM G uM (uC 0) iM sM ++ gC G uC iC tC sC) := by
  refine CI.of (by decide) (Nat.le_of_ble_eq_true rfl) ?_
  intro p e s m args below meth c A X hA hP hD hS ls hl
  have hl : lv_has ls 5 [(0, .ref (uM 0)), (1, .int p1)] := hl
  generalize hQ : MQ below (QI G A r (gM G uM (uC 0) iM sM ++ gC G uC iC tC sC)) args s 0 0 A = QQ
  unfold f_X4_isSoldOut at hf
  refine lv_iconst (v := 0) X.hx X.hb dX4_isSoldOut_0 (by decide) ?_
  refine lv_istore_n (lv' := [(2, .int 0), (0, .ref (uM 0)), (1, .int p1)]) X.hx X.hb dX4_isSoldOut_1 rfl hl (by decide) rfl (fun ls hl => ?_)
  refine lv_iconst (v := 0) X.hx X.hb dX4_isSoldOut_2 (by decide) ?_
  refine lv_istore_n (lv' := [(3, .int 0), (2, .int 0), (0, .ref (uM 0)), (1, .int p1)]) X.hx X.hb dX4_isSoldOut_3 rfl hl (by decide) rfl (fun ls hl => ?_)
  refine lv_iconst (v := 0) X.hx X.hb dX4_isSoldOut_4 (by decide) ?_
  refine lv_istore (lv' := [(4, .int 0), (3, .int 0), (2, .int 0), (0, .ref (uM 0)), (1, .int p1)]) X.hx X.hb dX4_isSoldOut_5 hl (by decide) rfl (fun ls hl => ?_)
  obtain ⟨K_1, eK_3, hf⟩ := jn_i hf
  have hj_2 : ∀ (x2_4 : Int32) (x3_5 : Int32) (H : Heap) (locs : List Loc) (ls : Array Slot), K_1 (x2_4, x3_5) = some r → va_P G.1 vwCl (gM G uM (uC 0) iM sM ++ gC G uC iC tC sC) H → va_D A (gM G uM (uC 0) iM sM ++ gC G uC iC tC sC) → va_S A s.heap H locs → lv_has ls 5 [(2, .int x2_4), (3, .int x3_5)] → W p l e (RM 2) s m args below meth c H locs 0 0 QQ (F0 m 61 ls []) := by
    intro x2_4 x3_5 H locs ls hf hP hD hS hl
    rw [eK_3] at hf
    try dsimp only at hf
    refine lv_iload_n X.hx X.hb dX4_isSoldOut_61 rfl (lv_at hl 0 rfl) ?_
    refine lv_if_eq (tgt := 73) X.hx X.hb dX4_isSoldOut_62 (by decide) (fun hc_6 => ?_) (fun hc_6 => ?_)
    · replace hf := if_t hf hc_6
      refine lv_iconst (v := 0) X.hx X.hb dX4_isSoldOut_73 (by decide) ?_
      cases hf
      subst hQ
      exact r_zret X hP hD hS (by decide) dX4_isSoldOut_74
    · replace hf := if_f hf hc_6
      refine lv_iload_n X.hx X.hb dX4_isSoldOut_65 rfl (lv_at hl 1 rfl) ?_
      refine lv_if_ne (tgt := 73) X.hx X.hb dX4_isSoldOut_66 (by decide) (fun hc_7 => ?_) (fun hc_7 => ?_)
      · replace hf := if_f hf hc_7
        refine lv_iconst (v := 0) X.hx X.hb dX4_isSoldOut_73 (by decide) ?_
        cases hf
        subst hQ
        exact r_zret X hP hD hS (by decide) dX4_isSoldOut_74
      · replace hf := if_t hf hc_7
        refine lv_iconst (v := 1) X.hx X.hb dX4_isSoldOut_69 (by decide) ?_
        refine lv_goto (tgt := 74) X.hx X.hb dX4_isSoldOut_70 (by decide) ?_
        cases hf
        subst hQ
        exact r_zret X hP hD hS (by decide) dX4_isSoldOut_74
  have hlo_8 : ∀ (k : Nat) (v2_9 : Int32) (v3_10 : Int32) (v4_11 : Int32) (H : Heap) (locs : List Loc) (ls : Array Slot), f_X4_isSoldOut_7 N iM sM iC tC sC p1 K_1 k v2_9 v3_10 v4_11 = some r → va_P G.1 vwCl (gM G uM (uC 0) iM sM ++ gC G uC iC tC sC) H → va_D A (gM G uM (uC 0) iM sM ++ gC G uC iC tC sC) → va_S A s.heap H locs → lv_has ls 5 [(0, .ref (uM 0)), (1, .int p1), (2, .int v2_9), (3, .int v3_10), (4, .int v4_11)] → W p l e (RM 2) s m args below meth c H locs 0 0 QQ (F0 m 7 ls []) := by
    intro k
    induction k with
    | zero => intro v2_9 v3_10 v4_11 H locs ls hf; exact absurd hf (by intro q; cases q)
    | succ k ih =>
      intro v2_9 v3_10 v4_11 H locs ls hf hP hD hS hl
      unfold f_X4_isSoldOut_7 at hf
      refine lv_iload X.hx X.hb dX4_isSoldOut_7 (lv_at hl 4 rfl) ?_
      refine lv_iconst (v := 5) X.hx X.hb dX4_isSoldOut_9 (by decide) ?_
      refine lv_icmp_ge (tgt := 61) X.hx X.hb dX4_isSoldOut_10 (by decide) (fun hc_12 => ?_) (fun hc_12 => ?_)
      · replace hf := if_t hf hc_12
        exact hj_2 _ _ _ _ _ hf hP hD hS (lv_sub hl [2, 3] rfl)
      · replace hf := if_f hf hc_12
        refine lv_iload_n X.hx X.hb dX4_isSoldOut_13 rfl (lv_at hl 2 rfl) ?_
        obtain ⟨K_13, eK_15, hf⟩ := jn_i hf
        have hj_14 : ∀ (y_16 : Int32) (H : Heap) (locs : List Loc) (ls : Array Slot), K_13 y_16 = some r → va_P G.1 vwCl (gM G uM (uC 0) iM sM ++ gC G uC iC tC sC) H → va_D A (gM G uM (uC 0) iM sM ++ gC G uC iC tC sC) → va_S A s.heap H locs → lv_has ls 5 [(0, .ref (uM 0)), (1, .int p1), (3, .int v3_10), (4, .int v4_11)] → W p l e (RM 2) s m args below meth c H locs 0 0 QQ (F0 m 40 ls [.int y_16]) := by
          intro y_16 H locs ls hf hP hD hS hl
          rw [eK_15] at hf
          try dsimp only at hf
          refine lv_istore_n (lv' := [(2, .int y_16), (0, .ref (uM 0)), (1, .int p1), (3, .int v3_10), (4, .int v4_11)]) X.hx X.hb dX4_isSoldOut_40 rfl hl (by decide) rfl (fun ls hl => ?_)
          refine lv_iload_n X.hx X.hb dX4_isSoldOut_41 rfl (lv_at hl 3 rfl) ?_
          refine lv_aload_n X.hx X.hb dX4_isSoldOut_42 rfl (lv_at hl 1 rfl) ?_
          refine gf_X4_21 X hP 0 rfl (v := .ref (uM 10)) rfl dX4_isSoldOut_43 ?_
          refine lv_iload_n X.hx X.hb dX4_isSoldOut_46 rfl (lv_at hl 2 rfl) ?_
          refine lv_iload X.hx X.hb dX4_isSoldOut_47 (lv_at hl 4 rfl) ?_
          obtain ⟨r_17, hc_18, hf⟩ := bd_i hf
          refine r_cn0 (As := [.int p1, .int v4_11]) (rest := [.ref (uM 10), .int v3_10]) X sm_X4_90 (c_X10_cellOf l G N p1 v4_11 hc_18) hP hD hS hA rfl hl.1 (lv_room (Nat.le_of_ble_eq_true rfl)) ⟨Nat.le_of_ble_eq_true rfl, Nat.le_of_ble_eq_true rfl⟩ ⟨Nat.zero_le _, Nat.zero_le _⟩ dX4_isSoldOut_49 (fun H locs hP hD hS => ?_)
          obtain ⟨hi_19, hf⟩ := ck_i hf
          refine r_iald X hP 4 (f := (sM 9)) rfl hi_19 dX4_isSoldOut_52 ?_
          refine lv_iadd X.hx X.hb dX4_isSoldOut_53 ?_
          obtain ⟨n_20, en_20, hf⟩ := nv_i hf
          refine r_nm en_20 ?_
          refine lv_istore_n (lv' := [(3, .int n_20), (2, .int y_16), (0, .ref (uM 0)), (1, .int p1), (4, .int v4_11)]) X.hx X.hb dX4_isSoldOut_54 rfl hl (by decide) rfl (fun ls hl => ?_)
          refine lv_iinc (v := (v4_11 + 1)) (lv' := [(4, .int (v4_11 + 1)), (3, .int n_20), (2, .int y_16), (0, .ref (uM 0)), (1, .int p1)]) X.hx X.hb dX4_isSoldOut_55 hl (k := 4) rfl rfl (by decide) rfl (fun ls hl => ?_)
          refine lv_goto (tgt := 7) X.hx X.hb dX4_isSoldOut_58 (by decide) ?_
          exact ih _ _ _ _ _ _ hf hP hD hS (lv_sub hl [3, 4, 2, 1, 0] rfl)
        obtain ⟨K_21, eK_23, hf⟩ := jn_i hf
        have hj_22 : ∀ (H : Heap) (locs : List Loc) (ls : Array Slot), K_21 () = some r → va_P G.1 vwCl (gM G uM (uC 0) iM sM ++ gC G uC iC tC sC) H → va_D A (gM G uM (uC 0) iM sM ++ gC G uC iC tC sC) → va_S A s.heap H locs → lv_has ls 5 [(0, .ref (uM 0)), (1, .int p1), (3, .int v3_10), (4, .int v4_11)] → W p l e (RM 2) s m args below meth c H locs 0 0 QQ (F0 m 35 ls []) := by
          intro  H locs ls hf hP hD hS hl
          rw [eK_23] at hf
          try dsimp only at hf
          refine lv_iconst (v := 1) X.hx X.hb dX4_isSoldOut_35 (by decide) ?_
          refine lv_goto (tgt := 40) X.hx X.hb dX4_isSoldOut_36 (by decide) ?_
          exact hj_14 _ _ _ _ hf hP hD hS (lv_sub hl [0, 1, 2, 3] rfl)
        refine lv_if_ne (tgt := 35) X.hx X.hb dX4_isSoldOut_14 (by decide) (fun hc_24 => ?_) (fun hc_24 => ?_)
        · replace hf := if_f hf hc_24
          exact hj_22 _ _ _ hf hP hD hS (lv_sub hl [0, 1, 3, 4] rfl)
        · replace hf := if_t hf hc_24
          refine lv_aload_n X.hx X.hb dX4_isSoldOut_17 rfl (lv_at hl 0 rfl) ?_
          refine gf_X4_30 X hP 0 rfl (v := .ref (uC 0)) rfl dX4_isSoldOut_18 ?_
          refine gf_X4_94 X hP 7 rfl (v := .ref (uC 9)) rfl dX4_isSoldOut_21 ?_
          refine lv_iload_n X.hx X.hb dX4_isSoldOut_24 rfl (lv_at hl 1 rfl) ?_
          refine lv_iload X.hx X.hb dX4_isSoldOut_25 (lv_at hl 4 rfl) ?_
          obtain ⟨r_25, hc_26, hf⟩ := bd_i hf
          refine r_cn0 (As := [.int p1, .int v4_11]) (rest := [.ref (uC 9)]) X sm_X4_90 (c_X10_cellOf l G N p1 v4_11 hc_26) hP hD hS hA rfl hl.1 (lv_room (Nat.le_of_ble_eq_true rfl)) ⟨Nat.le_of_ble_eq_true rfl, Nat.le_of_ble_eq_true rfl⟩ ⟨Nat.zero_le _, Nat.zero_le _⟩ dX4_isSoldOut_27 (fun H locs hP hD hS => ?_)
          obtain ⟨hi_27, hf⟩ := ck_i hf
          refine r_iald X hP 14 (f := (sC 8)) rfl hi_27 dX4_isSoldOut_30 ?_
          refine lv_iconst (v := (-1)) X.hx X.hb dX4_isSoldOut_31 (by decide) ?_
          refine lv_icmp_eq (tgt := 39) X.hx X.hb dX4_isSoldOut_32 (by decide) (fun hc_28 => ?_) (fun hc_28 => ?_)
          · replace hf := if_t hf hc_28
            refine lv_iconst (v := 0) X.hx X.hb dX4_isSoldOut_39 (by decide) ?_
            exact hj_14 _ _ _ _ hf hP hD hS (lv_sub hl [0, 1, 3, 4] rfl)
          · replace hf := if_f hf hc_28
            exact hj_22 _ _ _ hf hP hD hS (lv_sub hl [0, 1, 3, 4] rfl)
  exact hlo_8 N _ _ _ _ _ _ hf hP hD hS (lv_sub hl [3, 4, 2, 1, 0] rfl)

