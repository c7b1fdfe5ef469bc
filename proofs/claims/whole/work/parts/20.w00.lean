def f_X10_has (N : Nat) (p1 : Int32) (p2 : Int32) : Option (Int32) :=
  (if ((us p1 p2) &&& 1) = 0 then some 0 else some 1)
set_option maxHeartbeats 4000000 in
set_option maxRecDepth 100000 in
theorem c_X10_has (l : Launch) (G : GT) (N : Nat) (p1 : Int32) (p2 : Int32) {r : Int32} (hf : f_X10_has N p1 p2 = some r) : CI l G yX10_has cX10_has 2 .boolean 1 [.int p1, .int p2] ([] : va_W) r ([] : va_W) := by
  refine CI.of (by decide) (Nat.le_of_ble_eq_true rfl) ?_
  intro p e s m args below meth c A X hA hP hD hS ls hl
  have hl : lv_has ls 2 [(0, .int p1), (1, .int p2)] := hl
  generalize hQ : MQ below (QI G A r ([] : va_W)) args s 0 0 A = QQ
  unfold f_X10_has at hf
  refine lv_iload_n X.hx X.hb dX10_has_0 rfl (lv_at hl 0 rfl) ?_
  refine lv_iload_n X.hx X.hb dX10_has_1 rfl (lv_at hl 1 rfl) ?_
  refine lv_iushr (v := (us p1 p2)) X.hx X.hb dX10_has_2 rfl ?_
  refine lv_iconst (v := 1) X.hx X.hb dX10_has_3 (by decide) ?_
  refine lv_iand X.hx X.hb dX10_has_4 ?_
  refine lv_if_eq (tgt := 12) X.hx X.hb dX10_has_5 (by decide) (fun hc_1 => ?_) (fun hc_1 => ?_)
  · replace hf := if_t hf hc_1
    refine lv_iconst (v := 0) X.hx X.hb dX10_has_12 (by decide) ?_
    cases hf
    subst hQ
    exact r_zret X hP hD hS (by decide) dX10_has_13
  · replace hf := if_f hf hc_1
    refine lv_iconst (v := 1) X.hx X.hb dX10_has_8 (by decide) ?_
    refine lv_goto (tgt := 13) X.hx X.hb dX10_has_9 (by decide) ?_
    cases hf
    subst hQ
    exact r_zret X hP hD hS (by decide) dX10_has_13

def f_X10_cellOf (N : Nat) (p1 : Int32) (p2 : Int32) : Option (Int32) :=
  some ((p1 * 5) + p2)
set_option maxHeartbeats 4000000 in
set_option maxRecDepth 100000 in
theorem c_X10_cellOf (l : Launch) (G : GT) (N : Nat) (p1 : Int32) (p2 : Int32) {r : Int32} (hf : f_X10_cellOf N p1 p2 = some r) : CI l G yX10_cellOf cX10_cellOf 2 .int 1 [.int p1, .int p2] ([] : va_W) r ([] : va_W) := by
  refine CI.of (by decide) (Nat.le_of_ble_eq_true rfl) ?_
  intro p e s m args below meth c A X hA hP hD hS ls hl
  have hl : lv_has ls 2 [(0, .int p1), (1, .int p2)] := hl
  generalize hQ : MQ below (QI G A r ([] : va_W)) args s 0 0 A = QQ
  unfold f_X10_cellOf at hf
  refine lv_iload_n X.hx X.hb dX10_cellOf_0 rfl (lv_at hl 0 rfl) ?_
  refine lv_iconst (v := 5) X.hx X.hb dX10_cellOf_1 (by decide) ?_
  refine lv_imul X.hx X.hb dX10_cellOf_2 ?_
  refine lv_iload_n X.hx X.hb dX10_cellOf_3 rfl (lv_at hl 1 rfl) ?_
  refine lv_iadd X.hx X.hb dX10_cellOf_4 ?_
  cases hf
  subst hQ
  exact r_iret X hP hD hS dX10_cellOf_5

def f_X10_pairOf (N : Nat) (p1 : Int32) (p2 : Int32) : Option (Int32) :=
  some ((p1 * 7) + p2)
set_option maxHeartbeats 4000000 in
set_option maxRecDepth 100000 in
theorem c_X10_pairOf (l : Launch) (G : GT) (N : Nat) (p1 : Int32) (p2 : Int32) {r : Int32} (hf : f_X10_pairOf N p1 p2 = some r) : CI l G yX10_pairOf cX10_pairOf 2 .int 1 [.int p1, .int p2] ([] : va_W) r ([] : va_W) := by
  refine CI.of (by decide) (Nat.le_of_ble_eq_true rfl) ?_
  intro p e s m args below meth c A X hA hP hD hS ls hl
  have hl : lv_has ls 2 [(0, .int p1), (1, .int p2)] := hl
  generalize hQ : MQ below (QI G A r ([] : va_W)) args s 0 0 A = QQ
  unfold f_X10_pairOf at hf
  refine lv_iload_n X.hx X.hb dX10_pairOf_0 rfl (lv_at hl 0 rfl) ?_
  refine lv_bipush (v := 7) X.hx X.hb dX10_pairOf_1 (by decide) ?_
  refine lv_imul X.hx X.hb dX10_pairOf_3 ?_
  refine lv_iload_n X.hx X.hb dX10_pairOf_4 rfl (lv_at hl 1 rfl) ?_
  refine lv_iadd X.hx X.hb dX10_pairOf_5 ?_
  cases hf
  subst hQ
  exact r_iret X hP hD hS dX10_pairOf_6

def f_X10_bitAt_4 (N : Nat) (v0 : Int32) (v1 : Int32) : Nat → (Int32) → (Int32) → Option (Int32)
  | 0, _, _ => none
  | k + 1, v2, v3 => (if (7 : Int32) ≤ v3 then some (-1) else bd (f_X10_has N v0 v3) (fun r_14 => jn (fun (z : (Int32)) => match z with | x2_19 => f_X10_bitAt_4 N v0 v1 k x2_19 (v3 + 1)) (fun K_16 => (if r_14 = 0 then K_16 v2 else (if v2 = v1 then some v3 else K_16 (v2 + 1))))))
def f_X10_bitAt (N : Nat) (p1 : Int32) (p2 : Int32) : Option (Int32) :=
  f_X10_bitAt_4 N p1 p2 N 0 0
set_option maxHeartbeats 4000000 in
set_option maxRecDepth 100000 in
theorem c_X10_bitAt (l : Launch) (G : GT) (N : Nat) (p1 : Int32) (p2 : Int32) {r : Int32} (hf : f_X10_bitAt N p1 p2 = some r) : CI l G yX10_bitAt cX10_bitAt 4 .int 2 [.int p1, .int p2] ([] : va_W) r ([] : va_W) := by
  refine CI.of (by decide) (Nat.le_of_ble_eq_true rfl) ?_
  intro p e s m args below meth c A X hA hP hD hS ls hl
  have hl : lv_has ls 4 [(0, .int p1), (1, .int p2)] := hl
  generalize hQ : MQ below (QI G A r ([] : va_W)) args s 0 0 A = QQ
  unfold f_X10_bitAt at hf
  refine lv_iconst (v := 0) X.hx X.hb dX10_bitAt_0 (by decide) ?_
  refine lv_istore_n (lv' := [(2, .int 0), (0, .int p1), (1, .int p2)]) X.hx X.hb dX10_bitAt_1 rfl hl (by decide) rfl (fun ls hl => ?_)
  refine lv_iconst (v := 0) X.hx X.hb dX10_bitAt_2 (by decide) ?_
  refine lv_istore_n (lv' := [(3, .int 0), (2, .int 0), (0, .int p1), (1, .int p2)]) X.hx X.hb dX10_bitAt_3 rfl hl (by decide) rfl (fun ls hl => ?_)
  have hlo_1 : ∀ (k : Nat) (v2_2 : Int32) (v3_3 : Int32) (H : Heap) (locs : List Loc) (ls : Array Slot), f_X10_bitAt_4 N p1 p2 k v2_2 v3_3 = some r → va_P G.1 vwCl ([] : va_W) H → va_D A ([] : va_W) → va_S A s.heap H locs → lv_has ls 4 [(0, .int p1), (1, .int p2), (2, .int v2_2), (3, .int v3_3)] → W p l e (RM 2) s m args below meth c H locs 0 0 QQ (F0 m 4 ls []) := by
    intro k
    induction k with
    | zero => intro v2_2 v3_3 H locs ls hf; exact absurd hf (by intro q; cases q)
    | succ k ih =>
      intro v2_2 v3_3 H locs ls hf hP hD hS hl
      unfold f_X10_bitAt_4 at hf
      refine lv_iload_n X.hx X.hb dX10_bitAt_4 rfl (lv_at hl 3 rfl) ?_
      refine lv_bipush (v := 7) X.hx X.hb dX10_bitAt_5 (by decide) ?_
      refine lv_icmp_ge (tgt := 34) X.hx X.hb dX10_bitAt_7 (by decide) (fun hc_4 => ?_) (fun hc_4 => ?_)
      · replace hf := if_t hf hc_4
        refine lv_iconst (v := (-1)) X.hx X.hb dX10_bitAt_34 (by decide) ?_
        cases hf
        subst hQ
        exact r_iret X hP hD hS dX10_bitAt_35
      · replace hf := if_f hf hc_4
        refine lv_iload_n X.hx X.hb dX10_bitAt_10 rfl (lv_at hl 0 rfl) ?_
        refine lv_iload_n X.hx X.hb dX10_bitAt_11 rfl (lv_at hl 3 rfl) ?_
        obtain ⟨r_5, hc_6, hf⟩ := bd_i hf
        refine r_cs0 (As := [.int p1, .int v3_3]) (rest := []) X sm_X10_275 (c_X10_has l G N p1 v3_3 hc_6) hP hD hS hA rfl hl.1 (lv_room (Nat.le_of_ble_eq_true rfl)) ⟨Nat.le_of_ble_eq_true rfl, Nat.le_of_ble_eq_true rfl⟩ ⟨Nat.zero_le _, Nat.zero_le _⟩ dX10_bitAt_12 (fun H locs hP hD hS => ?_)
        obtain ⟨K_7, eK_9, hf⟩ := jn_i hf
        have hj_8 : ∀ (x2_10 : Int32) (H : Heap) (locs : List Loc) (ls : Array Slot), K_7 x2_10 = some r → va_P G.1 vwCl ([] : va_W) H → va_D A ([] : va_W) → va_S A s.heap H locs → lv_has ls 4 [(0, .int p1), (1, .int p2), (2, .int x2_10), (3, .int v3_3)] → W p l e (RM 2) s m args below meth c H locs 0 0 QQ (F0 m 28 ls []) := by
          intro x2_10 H locs ls hf hP hD hS hl
          rw [eK_9] at hf
          try dsimp only at hf
          refine lv_iinc (v := (v3_3 + 1)) (lv' := [(3, .int (v3_3 + 1)), (0, .int p1), (1, .int p2), (2, .int x2_10)]) X.hx X.hb dX10_bitAt_28 hl (k := 3) rfl rfl (by decide) rfl (fun ls hl => ?_)
          refine lv_goto (tgt := 4) X.hx X.hb dX10_bitAt_31 (by decide) ?_
          exact ih _ _ _ _ _ hf hP hD hS (lv_sub hl [1, 2, 3, 0] rfl)
        refine lv_if_eq (tgt := 28) X.hx X.hb dX10_bitAt_15 (by decide) (fun hc_11 => ?_) (fun hc_11 => ?_)
        · replace hf := if_t hf hc_11
          exact hj_8 _ _ _ _ hf hP hD hS (lv_sub hl [0, 1, 2, 3] rfl)
        · replace hf := if_f hf hc_11
          refine lv_iload_n X.hx X.hb dX10_bitAt_18 rfl (lv_at hl 2 rfl) ?_
          refine lv_iload_n X.hx X.hb dX10_bitAt_19 rfl (lv_at hl 1 rfl) ?_
          refine lv_icmp_ne (tgt := 25) X.hx X.hb dX10_bitAt_20 (by decide) (fun hc_12 => ?_) (fun hc_12 => ?_)
          · replace hf := if_f hf hc_12
            refine lv_iinc (v := (v2_2 + 1)) (lv' := [(2, .int (v2_2 + 1)), (0, .int p1), (1, .int p2), (3, .int v3_3)]) X.hx X.hb dX10_bitAt_25 hl (k := 2) rfl rfl (by decide) rfl (fun ls hl => ?_)
            exact hj_8 _ _ _ _ hf hP hD hS (lv_sub hl [1, 2, 0, 3] rfl)
          · replace hf := if_t hf hc_12
            refine lv_iload_n X.hx X.hb dX10_bitAt_23 rfl (lv_at hl 3 rfl) ?_
            cases hf
            subst hQ
            exact r_iret X hP hD hS dX10_bitAt_24
  exact hlo_1 N _ _ _ _ _ hf hP hD hS (lv_sub hl [2, 3, 1, 0] rfl)

def f_X1_clear (N : Nat) (iC : Nat → Int32) (tC : Nat → Nat → Int64) (sC : Nat → Nat → Int32) : Option ((Nat → Int32) × (Nat → Nat → Int64) × (Nat → Nat → Int32)) :=
  nv (fl_l 12 (tC 2) 0) (fun g_1 => nv (fl_i 7 (sC 3) 0) (fun g_2 => nv (fl_i 7 (sC 4) 0) (fun g_3 => nv (fl_i 7 (sC 5) 0) (fun g_4 => nv (fl_i 35 (sC 6) 0) (fun g_5 => nv (fl_i 35 (sC 7) 0) (fun g_6 => nv (fl_i 35 (sC 8) (-1)) (fun g_7 => some ((va_up (va_up (va_up (va_up (va_up iC 0 0) 1 0) 9 2) 10 1) 11 0), (va_up tC 2 g_1), (va_up (va_up (va_up (va_up (va_up (va_up sC 3 g_2) 4 g_3) 5 g_4) 6 g_5) 7 g_6) 8 g_7)))))))))
set_option maxHeartbeats 4000000 in
set_option maxRecDepth 100000 in
theorem c_X1_clear (l : Launch) (G : GT) (N : Nat) (uC : Nat → Nat) (iC : Nat → Int32) (tC : Nat → Nat → Int64) (sC : Nat → Nat → Int32) {iC' : Nat → Int32} {tC' : Nat → Nat → Int64} {sC' : Nat → Nat → Int32} (hf : f_X1_clear N iC tC sC = some (iC', tC', sC')) : CV l G yX1_clear cX1_clear 1 2 [.ref (uC 0)] (gC G uC iC tC sC) (gC G uC iC' tC' sC') := by
  refine CV.of (by decide) (Nat.le_of_ble_eq_true rfl) ?_
  intro p e s m args below meth c A X hA hP hD hS ls hl
  have hl : lv_has ls 1 [(0, .ref (uC 0))] := hl
  generalize hQ : MQ below (QV G A (gC G uC iC' tC' sC')) args s 0 0 A = QQ
  unfold f_X1_clear at hf
  refine lv_aload_n X.hx X.hb dX1_clear_0 rfl (lv_at hl 0 rfl) ?_
  refine lv_iconst (v := 0) X.hx X.hb dX1_clear_1 (by decide) ?_
  refine pf_X1_37 X hP hD hS 0 rfl rfl rfl (Nat.le_of_ble_eq_true rfl) (wo := (gC G uC (va_up iC 0 0) tC sC)) rfl dX1_clear_2 (fun H locs hP hD hS => ?_)
  refine lv_aload_n X.hx X.hb dX1_clear_5 rfl (lv_at hl 0 rfl) ?_
  refine lv_iconst (v := 0) X.hx X.hb dX1_clear_6 (by decide) ?_
  refine pf_X1_41 X hP hD hS 0 rfl rfl rfl (Nat.le_of_ble_eq_true rfl) (wo := (gC G uC (va_up (va_up iC 0 0) 1 0) tC sC)) rfl dX1_clear_7 (fun H locs hP hD hS => ?_)
  refine lv_aload_n X.hx X.hb dX1_clear_10 rfl (lv_at hl 0 rfl) ?_
  refine lv_iconst (v := 2) X.hx X.hb dX1_clear_11 (by decide) ?_
  refine pf_X1_44 X hP hD hS 0 rfl rfl rfl (Nat.le_of_ble_eq_true rfl) (wo := (gC G uC (va_up (va_up (va_up iC 0 0) 1 0) 9 2) tC sC)) rfl dX1_clear_12 (fun H locs hP hD hS => ?_)
  refine lv_aload_n X.hx X.hb dX1_clear_15 rfl (lv_at hl 0 rfl) ?_
  refine lv_iconst (v := 1) X.hx X.hb dX1_clear_16 (by decide) ?_
  refine pf_X1_47 X hP hD hS 0 rfl rfl rfl (Nat.le_of_ble_eq_true rfl) (wo := (gC G uC (va_up (va_up (va_up (va_up iC 0 0) 1 0) 9 2) 10 1) tC sC)) rfl dX1_clear_17 (fun H locs hP hD hS => ?_)
  refine lv_aload_n X.hx X.hb dX1_clear_20 rfl (lv_at hl 0 rfl) ?_
  refine lv_iconst (v := 0) X.hx X.hb dX1_clear_21 (by decide) ?_
  refine pf_X1_50 X hP hD hS 0 rfl rfl rfl (Nat.le_of_ble_eq_true rfl) (wo := (gC G uC (va_up (va_up (va_up (va_up (va_up iC 0 0) 1 0) 9 2) 10 1) 11 0) tC sC)) rfl dX1_clear_22 (fun H locs hP hD hS => ?_)
  refine lv_aload_n X.hx X.hb dX1_clear_25 rfl (lv_at hl 0 rfl) ?_
  refine gf_X1_11 X hP 0 rfl (v := .ref (uC 3)) rfl dX1_clear_26 ?_
  refine lv_lconst (v := 0) X.hx X.hb dX1_clear_29 rfl ?_
  obtain ⟨g_1, eg_1, hf⟩ := nv_i hf
  refine r_filll (rest := []) X sm_X1_53 hP hD hS hA 1 (f := (tC 2)) rfl (Nat.le_of_ble_eq_true rfl) hl.1 (lv_room (Nat.le_of_ble_eq_true rfl)) ⟨Nat.le_of_ble_eq_true rfl, Nat.le_of_ble_eq_true rfl⟩ ⟨Nat.zero_le _, Nat.zero_le _⟩ (wo := (gC G uC (va_up (va_up (va_up (va_up (va_up iC 0 0) 1 0) 9 2) 10 1) 11 0) (va_up tC 2 g_1) sC)) (by subst eg_1; rfl) dX1_clear_30 (fun H locs hP hD hS => ?_)
  refine lv_aload_n X.hx X.hb dX1_clear_33 rfl (lv_at hl 0 rfl) ?_
  refine gf_X1_15 X hP 0 rfl (v := .ref (uC 4)) rfl dX1_clear_34 ?_
  refine lv_iconst (v := 0) X.hx X.hb dX1_clear_37 (by decide) ?_
  obtain ⟨g_2, eg_2, hf⟩ := nv_i hf
  refine r_filli (rest := []) X sm_X1_59 hP hD hS hA 2 (f := (sC 3)) rfl (Nat.le_of_ble_eq_true rfl) hl.1 (lv_room (Nat.le_of_ble_eq_true rfl)) ⟨Nat.le_of_ble_eq_true rfl, Nat.le_of_ble_eq_true rfl⟩ ⟨Nat.zero_le _, Nat.zero_le _⟩ (wo := (gC G uC (va_up (va_up (va_up (va_up (va_up iC 0 0) 1 0) 9 2) 10 1) 11 0) (va_up tC 2 g_1) (va_up sC 3 g_2))) (by subst eg_2; rfl) dX1_clear_38 (fun H locs hP hD hS => ?_)
  refine lv_aload_n X.hx X.hb dX1_clear_41 rfl (lv_at hl 0 rfl) ?_
  refine gf_X1_19 X hP 0 rfl (v := .ref (uC 5)) rfl dX1_clear_42 ?_
  refine lv_iconst (v := 0) X.hx X.hb dX1_clear_45 (by decide) ?_
  obtain ⟨g_3, eg_3, hf⟩ := nv_i hf
  refine r_filli (rest := []) X sm_X1_59 hP hD hS hA 3 (f := (sC 4)) rfl (Nat.le_of_ble_eq_true rfl) hl.1 (lv_room (Nat.le_of_ble_eq_true rfl)) ⟨Nat.le_of_ble_eq_true rfl, Nat.le_of_ble_eq_true rfl⟩ ⟨Nat.zero_le _, Nat.zero_le _⟩ (wo := (gC G uC (va_up (va_up (va_up (va_up (va_up iC 0 0) 1 0) 9 2) 10 1) 11 0) (va_up tC 2 g_1) (va_up (va_up sC 3 g_2) 4 g_3))) (by subst eg_3; rfl) dX1_clear_46 (fun H locs hP hD hS => ?_)
  refine lv_aload_n X.hx X.hb dX1_clear_49 rfl (lv_at hl 0 rfl) ?_
  refine gf_X1_22 X hP 0 rfl (v := .ref (uC 6)) rfl dX1_clear_50 ?_
  refine lv_iconst (v := 0) X.hx X.hb dX1_clear_53 (by decide) ?_
  obtain ⟨g_4, eg_4, hf⟩ := nv_i hf
  refine r_filli (rest := []) X sm_X1_59 hP hD hS hA 4 (f := (sC 5)) rfl (Nat.le_of_ble_eq_true rfl) hl.1 (lv_room (Nat.le_of_ble_eq_true rfl)) ⟨Nat.le_of_ble_eq_true rfl, Nat.le_of_ble_eq_true rfl⟩ ⟨Nat.zero_le _, Nat.zero_le _⟩ (wo := (gC G uC (va_up (va_up (va_up (va_up (va_up iC 0 0) 1 0) 9 2) 10 1) 11 0) (va_up tC 2 g_1) (va_up (va_up (va_up sC 3 g_2) 4 g_3) 5 g_4))) (by subst eg_4; rfl) dX1_clear_54 (fun H locs hP hD hS => ?_)
  refine lv_aload_n X.hx X.hb dX1_clear_57 rfl (lv_at hl 0 rfl) ?_
  refine gf_X1_25 X hP 0 rfl (v := .ref (uC 7)) rfl dX1_clear_58 ?_
  refine lv_iconst (v := 0) X.hx X.hb dX1_clear_61 (by decide) ?_
  obtain ⟨g_5, eg_5, hf⟩ := nv_i hf
  refine r_filli (rest := []) X sm_X1_59 hP hD hS hA 5 (f := (sC 6)) rfl (Nat.le_of_ble_eq_true rfl) hl.1 (lv_room (Nat.le_of_ble_eq_true rfl)) ⟨Nat.le_of_ble_eq_true rfl, Nat.le_of_ble_eq_true rfl⟩ ⟨Nat.zero_le _, Nat.zero_le _⟩ (wo := (gC G uC (va_up (va_up (va_up (va_up (va_up iC 0 0) 1 0) 9 2) 10 1) 11 0) (va_up tC 2 g_1) (va_up (va_up (va_up (va_up sC 3 g_2) 4 g_3) 5 g_4) 6 g_5))) (by subst eg_5; rfl) dX1_clear_62 (fun H locs hP hD hS => ?_)
  refine lv_aload_n X.hx X.hb dX1_clear_65 rfl (lv_at hl 0 rfl) ?_
  refine gf_X1_28 X hP 0 rfl (v := .ref (uC 8)) rfl dX1_clear_66 ?_
  refine lv_iconst (v := 0) X.hx X.hb dX1_clear_69 (by decide) ?_
  obtain ⟨g_6, eg_6, hf⟩ := nv_i hf
  refine r_filli (rest := []) X sm_X1_59 hP hD hS hA 6 (f := (sC 7)) rfl (Nat.le_of_ble_eq_true rfl) hl.1 (lv_room (Nat.le_of_ble_eq_true rfl)) ⟨Nat.le_of_ble_eq_true rfl, Nat.le_of_ble_eq_true rfl⟩ ⟨Nat.zero_le _, Nat.zero_le _⟩ (wo := (gC G uC (va_up (va_up (va_up (va_up (va_up iC 0 0) 1 0) 9 2) 10 1) 11 0) (va_up tC 2 g_1) (va_up (va_up (va_up (va_up (va_up sC 3 g_2) 4 g_3) 5 g_4) 6 g_5) 7 g_6))) (by subst eg_6; rfl) dX1_clear_70 (fun H locs hP hD hS => ?_)
  refine lv_aload_n X.hx X.hb dX1_clear_73 rfl (lv_at hl 0 rfl) ?_
  refine gf_X1_31 X hP 0 rfl (v := .ref (uC 9)) rfl dX1_clear_74 ?_
  refine lv_iconst (v := (-1)) X.hx X.hb dX1_clear_77 (by decide) ?_
  obtain ⟨g_7, eg_7, hf⟩ := nv_i hf
  refine r_filli (rest := []) X sm_X1_59 hP hD hS hA 7 (f := (sC 8)) rfl (Nat.le_of_ble_eq_true rfl) hl.1 (lv_room (Nat.le_of_ble_eq_true rfl)) ⟨Nat.le_of_ble_eq_true rfl, Nat.le_of_ble_eq_true rfl⟩ ⟨Nat.zero_le _, Nat.zero_le _⟩ (wo := (gC G uC (va_up (va_up (va_up (va_up (va_up iC 0 0) 1 0) 9 2) 10 1) 11 0) (va_up tC 2 g_1) (va_up (va_up (va_up (va_up (va_up (va_up sC 3 g_2) 4 g_3) 5 g_4) 6 g_5) 7 g_6) 8 g_7))) (by subst eg_7; rfl) dX1_clear_78 (fun H locs hP hD hS => ?_)
  cases hf
  subst hQ
  exact r_vret X hP hD hS dX1_clear_81

def f_X1_isPerson (N : Nat) (iC : Nat → Int32) (tC : Nat → Nat → Int64) (sC : Nat → Nat → Int32) (p1 : Int32) : Option (Int32) :=
  (if p1 < 0 then some 0 else (if (iC 0) ≤ p1 then some 0 else some 1))
set_option maxHeartbeats 4000000 in
set_option maxRecDepth 100000 in
theorem c_X1_isPerson (l : Launch) (G : GT) (N : Nat) (uC : Nat → Nat) (iC : Nat → Int32) (tC : Nat → Nat → Int64) (sC : Nat → Nat → Int32) (p1 : Int32) {r : Int32} (hf : f_X1_isPerson N iC tC sC p1 = some r) : CI l G yX1_isPerson cX1_isPerson 2 .boolean 1 [.ref (uC 0), .int p1] (gC G uC iC tC sC) r (gC G uC iC tC sC) := by
  refine CI.of (by decide) (Nat.le_of_ble_eq_true rfl) ?_
  intro p e s m args below meth c A X hA hP hD hS ls hl
  have hl : lv_has ls 2 [(0, .ref (uC 0)), (1, .int p1)] := hl
  generalize hQ : MQ below (QI G A r (gC G uC iC tC sC)) args s 0 0 A = QQ
  unfold f_X1_isPerson at hf
  refine lv_iload_n X.hx X.hb dX1_isPerson_0 rfl (lv_at hl 1 rfl) ?_
  refine lv_if_lt (tgt := 16) X.hx X.hb dX1_isPerson_1 (by decide) (fun hc_1 => ?_) (fun hc_1 => ?_)
  · replace hf := if_t hf hc_1
    refine lv_iconst (v := 0) X.hx X.hb dX1_isPerson_16 (by decide) ?_
    cases hf
    subst hQ
    exact r_zret X hP hD hS (by decide) dX1_isPerson_17
  · replace hf := if_f hf hc_1
    refine lv_iload_n X.hx X.hb dX1_isPerson_4 rfl (lv_at hl 1 rfl) ?_
    refine lv_aload_n X.hx X.hb dX1_isPerson_5 rfl (lv_at hl 0 rfl) ?_
    refine gf_X1_37 X hP 0 rfl (v := .int (iC 0)) rfl dX1_isPerson_6 ?_
    refine lv_icmp_ge (tgt := 16) X.hx X.hb dX1_isPerson_9 (by decide) (fun hc_2 => ?_) (fun hc_2 => ?_)
    · replace hf := if_t hf hc_2
      refine lv_iconst (v := 0) X.hx X.hb dX1_isPerson_16 (by decide) ?_
      cases hf
      subst hQ
      exact r_zret X hP hD hS (by decide) dX1_isPerson_17
    · replace hf := if_f hf hc_2
      refine lv_iconst (v := 1) X.hx X.hb dX1_isPerson_12 (by decide) ?_
      refine lv_goto (tgt := 17) X.hx X.hb dX1_isPerson_13 (by decide) ?_
      cases hf
      subst hQ
      exact r_zret X hP hD hS (by decide) dX1_isPerson_17

def f_X1_isGood (N : Nat) (iC : Nat → Int32) (tC : Nat → Nat → Int64) (sC : Nat → Nat → Int32) (p1 : Int32) : Option (Int32) :=
  (if p1 < 0 then some 0 else (if (iC 1) ≤ p1 then some 0 else some 1))
set_option maxHeartbeats 4000000 in
set_option maxRecDepth 100000 in
theorem c_X1_isGood (l : Launch) (G : GT) (N : Nat) (uC : Nat → Nat) (iC : Nat → Int32) (tC : Nat → Nat → Int64) (sC : Nat → Nat → Int32) (p1 : Int32) {r : Int32} (hf : f_X1_isGood N iC tC sC p1 = some r) : CI l G yX1_isGood cX1_isGood 2 .boolean 1 [.ref (uC 0), .int p1] (gC G uC iC tC sC) r (gC G uC iC tC sC) := by
  refine CI.of (by decide) (Nat.le_of_ble_eq_true rfl) ?_
  intro p e s m args below meth c A X hA hP hD hS ls hl
  have hl : lv_has ls 2 [(0, .ref (uC 0)), (1, .int p1)] := hl
  generalize hQ : MQ below (QI G A r (gC G uC iC tC sC)) args s 0 0 A = QQ
  unfold f_X1_isGood at hf
  refine lv_iload_n X.hx X.hb dX1_isGood_0 rfl (lv_at hl 1 rfl) ?_
  refine lv_if_lt (tgt := 16) X.hx X.hb dX1_isGood_1 (by decide) (fun hc_1 => ?_) (fun hc_1 => ?_)
  · replace hf := if_t hf hc_1
    refine lv_iconst (v := 0) X.hx X.hb dX1_isGood_16 (by decide) ?_
    cases hf
    subst hQ
    exact r_zret X hP hD hS (by decide) dX1_isGood_17
  · replace hf := if_f hf hc_1
    refine lv_iload_n X.hx X.hb dX1_isGood_4 rfl (lv_at hl 1 rfl) ?_
    refine lv_aload_n X.hx X.hb dX1_isGood_5 rfl (lv_at hl 0 rfl) ?_
    refine gf_X1_41 X hP 0 rfl (v := .int (iC 1)) rfl dX1_isGood_6 ?_
    refine lv_icmp_ge (tgt := 16) X.hx X.hb dX1_isGood_9 (by decide) (fun hc_2 => ?_) (fun hc_2 => ?_)
    · replace hf := if_t hf hc_2
      refine lv_iconst (v := 0) X.hx X.hb dX1_isGood_16 (by decide) ?_
      cases hf
      subst hQ
      exact r_zret X hP hD hS (by decide) dX1_isGood_17
    · replace hf := if_f hf hc_2
      refine lv_iconst (v := 1) X.hx X.hb dX1_isGood_12 (by decide) ?_
      refine lv_goto (tgt := 17) X.hx X.hb dX1_isGood_13 (by decide) ?_
      cases hf
      subst hQ
      exact r_zret X hP hD hS (by decide) dX1_isGood_17

def f_X1_slotOf_2 (N : Nat) (iC : Nat → Int32) (tC : Nat → Nat → Int64) (sC : Nat → Nat → Int32) (v1 : Int64) : Nat → (Int32) → Option (Int32)
  | 0, _ => none
  | k + 1, v3 => (if (12 : Int32) ≤ v3 then some (-1) else ck v3 12 ((if (lg_cmp ((tC 2) (ix v3)) v1) = 0 then some v3 else f_X1_slotOf_2 N iC tC sC v1 k (v3 + 1))))
def f_X1_slotOf (N : Nat) (iC : Nat → Int32) (tC : Nat → Nat → Int64) (sC : Nat → Nat → Int32) (p1 : Int64) : Option (Int32) :=
  f_X1_slotOf_2 N iC tC sC p1 N 0
set_option maxHeartbeats 4000000 in
set_option maxRecDepth 100000 in
theorem c_X1_slotOf (l : Launch) (G : GT) (N : Nat) (uC : Nat → Nat) (iC : Nat → Int32) (tC : Nat → Nat → Int64) (sC : Nat → Nat → Int32) (p1 : Int64) {r : Int32} (hf : f_X1_slotOf N iC tC sC p1 = some r) : CI l G yX1_slotOf cX1_slotOf 4 .int 1 [.ref (uC 0), .long p1] (gC G uC iC tC sC) r (gC G uC iC tC sC) := by
  refine CI.of (by decide) (Nat.le_of_ble_eq_true rfl) ?_
  intro p e s m args below meth c A X hA hP hD hS ls hl
  have hl : lv_has ls 4 [(0, .ref (uC 0)), (1, .long p1)] := hl
  generalize hQ : MQ below (QI G A r (gC G uC iC tC sC)) args s 0 0 A = QQ
  unfold f_X1_slotOf at hf
  refine lv_iconst (v := 0) X.hx X.hb dX1_slotOf_0 (by decide) ?_
  refine lv_istore_n (lv' := [(3, .int 0), (0, .ref (uC 0)), (1, .long p1)]) X.hx X.hb dX1_slotOf_1 rfl hl (by decide) rfl (fun ls hl => ?_)
  have hlo_1 : ∀ (k : Nat) (v3_2 : Int32) (H : Heap) (locs : List Loc) (ls : Array Slot), f_X1_slotOf_2 N iC tC sC p1 k v3_2 = some r → va_P G.1 vwCl (gC G uC iC tC sC) H → va_D A (gC G uC iC tC sC) → va_S A s.heap H locs → lv_has ls 4 [(0, .ref (uC 0)), (1, .long p1), (3, .int v3_2)] → W p l e (RM 1) s m args below meth c H locs 0 0 QQ (F0 m 2 ls []) := by
    intro k
    induction k with
    | zero => intro v3_2 H locs ls hf; exact absurd hf (by intro q; cases q)
    | succ k ih =>
      intro v3_2 H locs ls hf hP hD hS hl
      unfold f_X1_slotOf_2 at hf
      refine lv_iload_n X.hx X.hb dX1_slotOf_2 rfl (lv_at hl 2 rfl) ?_
      refine lv_bipush (v := 12) X.hx X.hb dX1_slotOf_3 (by decide) ?_
      refine lv_icmp_ge (tgt := 27) X.hx X.hb dX1_slotOf_5 (by decide) (fun hc_3 => ?_) (fun hc_3 => ?_)
      · replace hf := if_t hf hc_3
        refine lv_iconst (v := (-1)) X.hx X.hb dX1_slotOf_27 (by decide) ?_
        cases hf
        subst hQ
        exact r_iret X hP hD hS dX1_slotOf_28
      · replace hf := if_f hf hc_3
        refine lv_aload_n X.hx X.hb dX1_slotOf_8 rfl (lv_at hl 0 rfl) ?_
        refine gf_X1_11 X hP 0 rfl (v := .ref (uC 3)) rfl dX1_slotOf_9 ?_
        refine lv_iload_n X.hx X.hb dX1_slotOf_12 rfl (lv_at hl 2 rfl) ?_
        obtain ⟨hi_4, hf⟩ := ck_i hf
        refine r_lald X hP 1 (f := (tC 2)) rfl hi_4 dX1_slotOf_13 ?_
        refine lv_lload_n X.hx X.hb dX1_slotOf_14 rfl (lv_at hl 1 rfl) ?_
        refine W.lcmp X.hx X.hb dX1_slotOf_15 ?_
        refine lv_if_ne (tgt := 21) X.hx X.hb dX1_slotOf_16 (by decide) (fun hc_5 => ?_) (fun hc_5 => ?_)
        · replace hf := if_f hf hc_5
          refine lv_iinc (v := (v3_2 + 1)) (lv' := [(3, .int (v3_2 + 1)), (0, .ref (uC 0)), (1, .long p1)]) X.hx X.hb dX1_slotOf_21 hl (k := 2) rfl rfl (by decide) rfl (fun ls hl => ?_)
          refine lv_goto (tgt := 2) X.hx X.hb dX1_slotOf_24 (by decide) ?_
          exact ih _ _ _ _ hf hP hD hS (lv_sub hl [1, 2, 0] rfl)
        · replace hf := if_t hf hc_5
          refine lv_iload_n X.hx X.hb dX1_slotOf_19 rfl (lv_at hl 2 rfl) ?_
          cases hf
          subst hQ
          exact r_iret X hP hD hS dX1_slotOf_20
  exact hlo_1 N _ _ _ _ hf hP hD hS (lv_sub hl [1, 2, 0] rfl)

def f_X1_sellsOrWants (N : Nat) (iC : Nat → Int32) (tC : Nat → Nat → Int64) (sC : Nat → Nat → Int32) (p1 : Int32) (p2 : Int32) : Option (Int32) :=
  bd (f_X10_cellOf N p1 p2) (fun r_1 => ck r_1 35 ((if ((sC 8) (ix r_1)) = (-1) then ck r_1 35 ((if ((sC 7) (ix r_1)) ≤ 0 then some 0 else some 1)) else some 1)))
set_option maxHeartbeats 4000000 in
set_option maxRecDepth 100000 in
theorem c_X1_sellsOrWants (l : Launch) (G : GT) (N : Nat) (uC : Nat → Nat) (iC : Nat → Int32) (tC : Nat → Nat → Int64) (sC : Nat → Nat → Int32) (p1 : Int32) (p2 : Int32) {r : Int32} (hf : f_X1_sellsOrWants N iC tC sC p1 p2 = some r) : CI l G yX1_sellsOrWants cX1_sellsOrWants 4 .boolean 2 [.ref (uC 0), .int p1, .int p2] (gC G uC iC tC sC) r (gC G uC iC tC sC) := by
  refine CI.of (by decide) (Nat.le_of_ble_eq_true rfl) ?_
  intro p e s m args below meth c A X hA hP hD hS ls hl
  have hl : lv_has ls 4 [(0, .ref (uC 0)), (1, .int p1), (2, .int p2)] := hl
  generalize hQ : MQ below (QI G A r (gC G uC iC tC sC)) args s 0 0 A = QQ
  unfold f_X1_sellsOrWants at hf
  refine lv_iload_n X.hx X.hb dX1_sellsOrWants_0 rfl (lv_at hl 1 rfl) ?_
  refine lv_iload_n X.hx X.hb dX1_sellsOrWants_1 rfl (lv_at hl 2 rfl) ?_
  obtain ⟨r_1, hc_2, hf⟩ := bd_i hf
  refine r_cn0 (As := [.int p1, .int p2]) (rest := []) X sm_X1_68 (c_X10_cellOf l G N p1 p2 hc_2) hP hD hS hA rfl hl.1 (lv_room (Nat.le_of_ble_eq_true rfl)) ⟨Nat.le_of_ble_eq_true rfl, Nat.le_of_ble_eq_true rfl⟩ ⟨Nat.zero_le _, Nat.zero_le _⟩ dX1_sellsOrWants_2 (fun H locs hP hD hS => ?_)
  refine lv_istore_n (lv' := [(3, .int r_1), (0, .ref (uC 0)), (1, .int p1), (2, .int p2)]) X.hx X.hb dX1_sellsOrWants_5 rfl hl (by decide) rfl (fun ls hl => ?_)
  refine lv_aload_n X.hx X.hb dX1_sellsOrWants_6 rfl (lv_at hl 1 rfl) ?_
  refine gf_X1_31 X hP 0 rfl (v := .ref (uC 9)) rfl dX1_sellsOrWants_7 ?_
  refine lv_iload_n X.hx X.hb dX1_sellsOrWants_10 rfl (lv_at hl 0 rfl) ?_
  obtain ⟨hi_3, hf⟩ := ck_i hf
  refine r_iald X hP 7 (f := (sC 8)) rfl hi_3 dX1_sellsOrWants_11 ?_
  refine lv_iconst (v := (-1)) X.hx X.hb dX1_sellsOrWants_12 (by decide) ?_
  refine lv_icmp_ne (tgt := 25) X.hx X.hb dX1_sellsOrWants_13 (by decide) (fun hc_4 => ?_) (fun hc_4 => ?_)
  · replace hf := if_f hf hc_4
    refine lv_iconst (v := 1) X.hx X.hb dX1_sellsOrWants_25 (by decide) ?_
    refine lv_goto (tgt := 30) X.hx X.hb dX1_sellsOrWants_26 (by decide) ?_
    cases hf
    subst hQ
    exact r_zret X hP hD hS (by decide) dX1_sellsOrWants_30
  · replace hf := if_t hf hc_4
    refine lv_aload_n X.hx X.hb dX1_sellsOrWants_16 rfl (lv_at hl 1 rfl) ?_
    refine gf_X1_28 X hP 0 rfl (v := .ref (uC 8)) rfl dX1_sellsOrWants_17 ?_
    refine lv_iload_n X.hx X.hb dX1_sellsOrWants_20 rfl (lv_at hl 0 rfl) ?_
    obtain ⟨hi_5, hf⟩ := ck_i hf
    refine r_iald X hP 6 (f := (sC 7)) rfl hi_5 dX1_sellsOrWants_21 ?_
    refine lv_if_le (tgt := 29) X.hx X.hb dX1_sellsOrWants_22 (by decide) (fun hc_6 => ?_) (fun hc_6 => ?_)
    · replace hf := if_t hf hc_6
      refine lv_iconst (v := 0) X.hx X.hb dX1_sellsOrWants_29 (by decide) ?_
      cases hf
      subst hQ
      exact r_zret X hP hD hS (by decide) dX1_sellsOrWants_30
    · replace hf := if_f hf hc_6
      refine lv_iconst (v := 1) X.hx X.hb dX1_sellsOrWants_25 (by decide) ?_
      refine lv_goto (tgt := 30) X.hx X.hb dX1_sellsOrWants_26 (by decide) ?_
      cases hf
      subst hQ
      exact r_zret X hP hD hS (by decide) dX1_sellsOrWants_30

def f_X1_everyone (N : Nat) (iC : Nat → Int32) (tC : Nat → Nat → Int64) (sC : Nat → Nat → Int32) : Option (Int32) :=
  some (((1 : Int32) <<< ((iC 0) &&& 31)) - 1)
set_option maxHeartbeats 4000000 in
set_option maxRecDepth 100000 in
theorem c_X1_everyone (l : Launch) (G : GT) (N : Nat) (uC : Nat → Nat) (iC : Nat → Int32) (tC : Nat → Nat → Int64) (sC : Nat → Nat → Int32) {r : Int32} (hf : f_X1_everyone N iC tC sC = some r) : CI l G yX1_everyone cX1_everyone 1 .int 1 [.ref (uC 0)] (gC G uC iC tC sC) r (gC G uC iC tC sC) := by
  refine CI.of (by decide) (Nat.le_of_ble_eq_true rfl) ?_
  intro p e s m args below meth c A X hA hP hD hS ls hl
  have hl : lv_has ls 1 [(0, .ref (uC 0))] := hl
  generalize hQ : MQ below (QI G A r (gC G uC iC tC sC)) args s 0 0 A = QQ
  unfold f_X1_everyone at hf
  refine lv_iconst (v := 1) X.hx X.hb dX1_everyone_0 (by decide) ?_
  refine lv_aload_n X.hx X.hb dX1_everyone_1 rfl (lv_at hl 0 rfl) ?_
  refine gf_X1_37 X hP 0 rfl (v := .int (iC 0)) rfl dX1_everyone_2 ?_
  refine lv_ishl X.hx X.hb dX1_everyone_5 ?_
  refine lv_iconst (v := 1) X.hx X.hb dX1_everyone_6 (by decide) ?_
  refine lv_isub X.hx X.hb dX1_everyone_7 ?_
  cases hf
  subst hQ
  exact r_iret X hP hD hS dX1_everyone_8

def f_X1_copyFrom (N : Nat) (iC : Nat → Int32) (tC : Nat → Nat → Int64) (sC : Nat → Nat → Int32) (iC2 : Nat → Int32) (tC2 : Nat → Nat → Int64) (sC2 : Nat → Nat → Int32) : Option ((Nat → Int32) × (Nat → Nat → Int64) × (Nat → Nat → Int32)) :=
  nv (va_cpy (tC2 2) (tC 2) 0 0 12) (fun g_1 => nv (va_cpy (sC2 3) (sC 3) 0 0 7) (fun g_2 => nv (va_cpy (sC2 4) (sC 4) 0 0 7) (fun g_3 => nv (va_cpy (sC2 5) (sC 5) 0 0 7) (fun g_4 => nv (va_cpy (sC2 6) (sC 6) 0 0 35) (fun g_5 => nv (va_cpy (sC2 7) (sC 7) 0 0 35) (fun g_6 => nv (va_cpy (sC2 8) (sC 8) 0 0 35) (fun g_7 => some ((va_up (va_up (va_up (va_up (va_up iC 0 (iC2 0)) 1 (iC2 1)) 9 (iC2 9)) 10 (iC2 10)) 11 (iC2 11)), (va_up tC 2 g_1), (va_up (va_up (va_up (va_up (va_up (va_up sC 3 g_2) 4 g_3) 5 g_4) 6 g_5) 7 g_6) 8 g_7)))))))))
set_option maxHeartbeats 4000000 in
set_option maxRecDepth 100000 in
theorem c_X1_copyFrom (l : Launch) (G : GT) (N : Nat) (uC uC2 : Nat → Nat) (iC : Nat → Int32) (tC : Nat → Nat → Int64) (sC : Nat → Nat → Int32) (iC2 : Nat → Int32) (tC2 : Nat → Nat → Int64) (sC2 : Nat → Nat → Int32) {iC' : Nat → Int32} {tC' : Nat → Nat → Int64} {sC' : Nat → Nat → Int32} (hf : f_X1_copyFrom N iC tC sC iC2 tC2 sC2 = some (iC', tC', sC')) : CV l G yX1_copyFrom cX1_copyFrom 2 2 [.ref (uC 0), .ref (uC2 0)] (gC G uC iC tC sC ++ gC G uC2 iC2 tC2 sC2) (gC G uC iC' tC' sC' ++ gC G uC2 iC2 tC2 sC2) := by
  refine CV.of (by decide) (Nat.le_of_ble_eq_true rfl) ?_
  intro p e s m args below meth c A X hA hP hD hS ls hl
  have hl : lv_has ls 2 [(0, .ref (uC 0)), (1, .ref (uC2 0))] := hl
  generalize hQ : MQ below (QV G A (gC G uC iC' tC' sC' ++ gC G uC2 iC2 tC2 sC2)) args s 0 0 A = QQ
  unfold f_X1_copyFrom at hf
  refine lv_aload_n X.hx X.hb dX1_copyFrom_0 rfl (lv_at hl 0 rfl) ?_
  refine lv_aload_n X.hx X.hb dX1_copyFrom_1 rfl (lv_at hl 1 rfl) ?_
  refine gf_X1_37 X hP 8 rfl (v := .int (iC2 0)) rfl dX1_copyFrom_2 ?_
  refine pf_X1_37 X hP hD hS 0 rfl rfl rfl (Nat.le_of_ble_eq_true rfl) (wo := (gC G uC (va_up iC 0 (iC2 0)) tC sC ++ gC G uC2 iC2 tC2 sC2)) rfl dX1_copyFrom_5 (fun H locs hP hD hS => ?_)
  refine lv_aload_n X.hx X.hb dX1_copyFrom_8 rfl (lv_at hl 0 rfl) ?_
  refine lv_aload_n X.hx X.hb dX1_copyFrom_9 rfl (lv_at hl 1 rfl) ?_
  refine gf_X1_41 X hP 8 rfl (v := .int (iC2 1)) rfl dX1_copyFrom_10 ?_
  refine pf_X1_41 X hP hD hS 0 rfl rfl rfl (Nat.le_of_ble_eq_true rfl) (wo := (gC G uC (va_up (va_up iC 0 (iC2 0)) 1 (iC2 1)) tC sC ++ gC G uC2 iC2 tC2 sC2)) rfl dX1_copyFrom_13 (fun H locs hP hD hS => ?_)
  refine lv_aload_n X.hx X.hb dX1_copyFrom_16 rfl (lv_at hl 0 rfl) ?_
  refine lv_aload_n X.hx X.hb dX1_copyFrom_17 rfl (lv_at hl 1 rfl) ?_
  refine gf_X1_44 X hP 8 rfl (v := .int (iC2 9)) rfl dX1_copyFrom_18 ?_
  refine pf_X1_44 X hP hD hS 0 rfl rfl rfl (Nat.le_of_ble_eq_true rfl) (wo := (gC G uC (va_up (va_up (va_up iC 0 (iC2 0)) 1 (iC2 1)) 9 (iC2 9)) tC sC ++ gC G uC2 iC2 tC2 sC2)) rfl dX1_copyFrom_21 (fun H locs hP hD hS => ?_)
  refine lv_aload_n X.hx X.hb dX1_copyFrom_24 rfl (lv_at hl 0 rfl) ?_
  refine lv_aload_n X.hx X.hb dX1_copyFrom_25 rfl (lv_at hl 1 rfl) ?_
  refine gf_X1_47 X hP 8 rfl (v := .int (iC2 10)) rfl dX1_copyFrom_26 ?_
  refine pf_X1_47 X hP hD hS 0 rfl rfl rfl (Nat.le_of_ble_eq_true rfl) (wo := (gC G uC (va_up (va_up (va_up (va_up iC 0 (iC2 0)) 1 (iC2 1)) 9 (iC2 9)) 10 (iC2 10)) tC sC ++ gC G uC2 iC2 tC2 sC2)) rfl dX1_copyFrom_29 (fun H locs hP hD hS => ?_)
  refine lv_aload_n X.hx X.hb dX1_copyFrom_32 rfl (lv_at hl 0 rfl) ?_
  refine lv_aload_n X.hx X.hb dX1_copyFrom_33 rfl (lv_at hl 1 rfl) ?_
  refine gf_X1_50 X hP 8 rfl (v := .int (iC2 11)) rfl dX1_copyFrom_34 ?_
  refine pf_X1_50 X hP hD hS 0 rfl rfl rfl (Nat.le_of_ble_eq_true rfl) (wo := (gC G uC (va_up (va_up (va_up (va_up (va_up iC 0 (iC2 0)) 1 (iC2 1)) 9 (iC2 9)) 10 (iC2 10)) 11 (iC2 11)) tC sC ++ gC G uC2 iC2 tC2 sC2)) rfl dX1_copyFrom_37 (fun H locs hP hD hS => ?_)
  refine lv_aload_n X.hx X.hb dX1_copyFrom_40 rfl (lv_at hl 1 rfl) ?_
  refine gf_X1_11 X hP 8 rfl (v := .ref (uC2 3)) rfl dX1_copyFrom_41 ?_
  refine lv_iconst (v := 0) X.hx X.hb dX1_copyFrom_44 (by decide) ?_
  refine lv_aload_n X.hx X.hb dX1_copyFrom_45 rfl (lv_at hl 0 rfl) ?_
  refine gf_X1_11 X hP 0 rfl (v := .ref (uC 3)) rfl dX1_copyFrom_46 ?_
  refine lv_iconst (v := 0) X.hx X.hb dX1_copyFrom_49 (by decide) ?_
  refine lv_bipush (v := 12) X.hx X.hb dX1_copyFrom_50 (by decide) ?_
  obtain ⟨g_1, eg_1, hf⟩ := nv_i hf
  refine r_copyl X tw_713 hP hD hS 9 1 (f := (tC2 2)) (g := (tC 2)) rfl rfl (by decide) (by decide) (by decide) (Nat.le_of_ble_eq_true rfl) (Nat.le_of_ble_eq_true rfl) hl.1 (Nat.le_of_ble_eq_true rfl) (Nat.le_of_ble_eq_true rfl) (wo := (gC G uC (va_up (va_up (va_up (va_up (va_up iC 0 (iC2 0)) 1 (iC2 1)) 9 (iC2 9)) 10 (iC2 10)) 11 (iC2 11)) (va_up tC 2 g_1) sC ++ gC G uC2 iC2 tC2 sC2)) (by subst eg_1; rfl) dX1_copyFrom_52 (fun H locs hP hD hS => ?_)
  refine lv_aload_n X.hx X.hb dX1_copyFrom_55 rfl (lv_at hl 1 rfl) ?_
  refine gf_X1_15 X hP 8 rfl (v := .ref (uC2 4)) rfl dX1_copyFrom_56 ?_
  refine lv_iconst (v := 0) X.hx X.hb dX1_copyFrom_59 (by decide) ?_
  refine lv_aload_n X.hx X.hb dX1_copyFrom_60 rfl (lv_at hl 0 rfl) ?_
  refine gf_X1_15 X hP 0 rfl (v := .ref (uC 4)) rfl dX1_copyFrom_61 ?_
  refine lv_iconst (v := 0) X.hx X.hb dX1_copyFrom_64 (by decide) ?_
  refine lv_bipush (v := 7) X.hx X.hb dX1_copyFrom_65 (by decide) ?_
  obtain ⟨g_2, eg_2, hf⟩ := nv_i hf
  refine r_copyi X tw_713 hP hD hS 10 2 (f := (sC2 3)) (g := (sC 3)) rfl rfl (by decide) (by decide) (by decide) (Nat.le_of_ble_eq_true rfl) (Nat.le_of_ble_eq_true rfl) hl.1 (Nat.le_of_ble_eq_true rfl) (Nat.le_of_ble_eq_true rfl) (wo := (gC G uC (va_up (va_up (va_up (va_up (va_up iC 0 (iC2 0)) 1 (iC2 1)) 9 (iC2 9)) 10 (iC2 10)) 11 (iC2 11)) (va_up tC 2 g_1) (va_up sC 3 g_2) ++ gC G uC2 iC2 tC2 sC2)) (by subst eg_2; rfl) dX1_copyFrom_67 (fun H locs hP hD hS => ?_)
  refine lv_aload_n X.hx X.hb dX1_copyFrom_70 rfl (lv_at hl 1 rfl) ?_
  refine gf_X1_19 X hP 8 rfl (v := .ref (uC2 5)) rfl dX1_copyFrom_71 ?_
  refine lv_iconst (v := 0) X.hx X.hb dX1_copyFrom_74 (by decide) ?_
  refine lv_aload_n X.hx X.hb dX1_copyFrom_75 rfl (lv_at hl 0 rfl) ?_
  refine gf_X1_19 X hP 0 rfl (v := .ref (uC 5)) rfl dX1_copyFrom_76 ?_
  refine lv_iconst (v := 0) X.hx X.hb dX1_copyFrom_79 (by decide) ?_
  refine lv_bipush (v := 7) X.hx X.hb dX1_copyFrom_80 (by decide) ?_
  obtain ⟨g_3, eg_3, hf⟩ := nv_i hf
  refine r_copyi X tw_713 hP hD hS 11 3 (f := (sC2 4)) (g := (sC 4)) rfl rfl (by decide) (by decide) (by decide) (Nat.le_of_ble_eq_true rfl) (Nat.le_of_ble_eq_true rfl) hl.1 (Nat.le_of_ble_eq_true rfl) (Nat.le_of_ble_eq_true rfl) (wo := (gC G uC (va_up (va_up (va_up (va_up (va_up iC 0 (iC2 0)) 1 (iC2 1)) 9 (iC2 9)) 10 (iC2 10)) 11 (iC2 11)) (va_up tC 2 g_1) (va_up (va_up sC 3 g_2) 4 g_3) ++ gC G uC2 iC2 tC2 sC2)) (by subst eg_3; rfl) dX1_copyFrom_82 (fun H locs hP hD hS => ?_)
  refine lv_aload_n X.hx X.hb dX1_copyFrom_85 rfl (lv_at hl 1 rfl) ?_
  refine gf_X1_22 X hP 8 rfl (v := .ref (uC2 6)) rfl dX1_copyFrom_86 ?_
  refine lv_iconst (v := 0) X.hx X.hb dX1_copyFrom_89 (by decide) ?_
  refine lv_aload_n X.hx X.hb dX1_copyFrom_90 rfl (lv_at hl 0 rfl) ?_
  refine gf_X1_22 X hP 0 rfl (v := .ref (uC 6)) rfl dX1_copyFrom_91 ?_
  refine lv_iconst (v := 0) X.hx X.hb dX1_copyFrom_94 (by decide) ?_
  refine lv_bipush (v := 7) X.hx X.hb dX1_copyFrom_95 (by decide) ?_
  obtain ⟨g_4, eg_4, hf⟩ := nv_i hf
  refine r_copyi X tw_713 hP hD hS 12 4 (f := (sC2 5)) (g := (sC 5)) rfl rfl (by decide) (by decide) (by decide) (Nat.le_of_ble_eq_true rfl) (Nat.le_of_ble_eq_true rfl) hl.1 (Nat.le_of_ble_eq_true rfl) (Nat.le_of_ble_eq_true rfl) (wo := (gC G uC (va_up (va_up (va_up (va_up (va_up iC 0 (iC2 0)) 1 (iC2 1)) 9 (iC2 9)) 10 (iC2 10)) 11 (iC2 11)) (va_up tC 2 g_1) (va_up (va_up (va_up sC 3 g_2) 4 g_3) 5 g_4) ++ gC G uC2 iC2 tC2 sC2)) (by subst eg_4; rfl) dX1_copyFrom_97 (fun H locs hP hD hS => ?_)
  refine lv_aload_n X.hx X.hb dX1_copyFrom_100 rfl (lv_at hl 1 rfl) ?_
  refine gf_X1_25 X hP 8 rfl (v := .ref (uC2 7)) rfl dX1_copyFrom_101 ?_
  refine lv_iconst (v := 0) X.hx X.hb dX1_copyFrom_104 (by decide) ?_
  refine lv_aload_n X.hx X.hb dX1_copyFrom_105 rfl (lv_at hl 0 rfl) ?_
  refine gf_X1_25 X hP 0 rfl (v := .ref (uC 7)) rfl dX1_copyFrom_106 ?_
  refine lv_iconst (v := 0) X.hx X.hb dX1_copyFrom_109 (by decide) ?_
  refine lv_bipush (v := 35) X.hx X.hb dX1_copyFrom_110 (by decide) ?_
  obtain ⟨g_5, eg_5, hf⟩ := nv_i hf
  refine r_copyi X tw_713 hP hD hS 13 5 (f := (sC2 6)) (g := (sC 6)) rfl rfl (by decide) (by decide) (by decide) (Nat.le_of_ble_eq_true rfl) (Nat.le_of_ble_eq_true rfl) hl.1 (Nat.le_of_ble_eq_true rfl) (Nat.le_of_ble_eq_true rfl) (wo := (gC G uC (va_up (va_up (va_up (va_up (va_up iC 0 (iC2 0)) 1 (iC2 1)) 9 (iC2 9)) 10 (iC2 10)) 11 (iC2 11)) (va_up tC 2 g_1) (va_up (va_up (va_up (va_up sC 3 g_2) 4 g_3) 5 g_4) 6 g_5) ++ gC G uC2 iC2 tC2 sC2)) (by subst eg_5; rfl) dX1_copyFrom_112 (fun H locs hP hD hS => ?_)
  refine lv_aload_n X.hx X.hb dX1_copyFrom_115 rfl (lv_at hl 1 rfl) ?_
  refine gf_X1_28 X hP 8 rfl (v := .ref (uC2 8)) rfl dX1_copyFrom_116 ?_
  refine lv_iconst (v := 0) X.hx X.hb dX1_copyFrom_119 (by decide) ?_
  refine lv_aload_n X.hx X.hb dX1_copyFrom_120 rfl (lv_at hl 0 rfl) ?_
  refine gf_X1_28 X hP 0 rfl (v := .ref (uC 8)) rfl dX1_copyFrom_121 ?_
  refine lv_iconst (v := 0) X.hx X.hb dX1_copyFrom_124 (by decide) ?_
  refine lv_bipush (v := 35) X.hx X.hb dX1_copyFrom_125 (by decide) ?_
  obtain ⟨g_6, eg_6, hf⟩ := nv_i hf
  refine r_copyi X tw_713 hP hD hS 14 6 (f := (sC2 7)) (g := (sC 7)) rfl rfl (by decide) (by decide) (by decide) (Nat.le_of_ble_eq_true rfl) (Nat.le_of_ble_eq_true rfl) hl.1 (Nat.le_of_ble_eq_true rfl) (Nat.le_of_ble_eq_true rfl) (wo := (gC G uC (va_up (va_up (va_up (va_up (va_up iC 0 (iC2 0)) 1 (iC2 1)) 9 (iC2 9)) 10 (iC2 10)) 11 (iC2 11)) (va_up tC 2 g_1) (va_up (va_up (va_up (va_up (va_up sC 3 g_2) 4 g_3) 5 g_4) 6 g_5) 7 g_6) ++ gC G uC2 iC2 tC2 sC2)) (by subst eg_6; rfl) dX1_copyFrom_127 (fun H locs hP hD hS => ?_)
  refine lv_aload_n X.hx X.hb dX1_copyFrom_130 rfl (lv_at hl 1 rfl) ?_
  refine gf_X1_31 X hP 8 rfl (v := .ref (uC2 9)) rfl dX1_copyFrom_131 ?_
  refine lv_iconst (v := 0) X.hx X.hb dX1_copyFrom_134 (by decide) ?_
  refine lv_aload_n X.hx X.hb dX1_copyFrom_135 rfl (lv_at hl 0 rfl) ?_
  refine gf_X1_31 X hP 0 rfl (v := .ref (uC 9)) rfl dX1_copyFrom_136 ?_
  refine lv_iconst (v := 0) X.hx X.hb dX1_copyFrom_139 (by decide) ?_
  refine lv_bipush (v := 35) X.hx X.hb dX1_copyFrom_140 (by decide) ?_
  obtain ⟨g_7, eg_7, hf⟩ := nv_i hf
  refine r_copyi X tw_713 hP hD hS 15 7 (f := (sC2 8)) (g := (sC 8)) rfl rfl (by decide) (by decide) (by decide) (Nat.le_of_ble_eq_true rfl) (Nat.le_of_ble_eq_true rfl) hl.1 (Nat.le_of_ble_eq_true rfl) (Nat.le_of_ble_eq_true rfl) (wo := (gC G uC (va_up (va_up (va_up (va_up (va_up iC 0 (iC2 0)) 1 (iC2 1)) 9 (iC2 9)) 10 (iC2 10)) 11 (iC2 11)) (va_up tC 2 g_1) (va_up (va_up (va_up (va_up (va_up (va_up sC 3 g_2) 4 g_3) 5 g_4) 6 g_5) 7 g_6) 8 g_7) ++ gC G uC2 iC2 tC2 sC2)) (by subst eg_7; rfl) dX1_copyFrom_142 (fun H locs hP hD hS => ?_)
  cases hf
  subst hQ
  exact r_vret X hP hD hS dX1_copyFrom_145

def f_X8_hasRoomForFeed (N : Nat) (sT : Nat → Nat → Int32) (iT : Nat → Int32) (jT : Nat → Int64) : Option (Int32) :=
  (if (920 : Int32) < (iT 1) then some 0 else some 1)
set_option maxHeartbeats 4000000 in
set_option maxRecDepth 100000 in
theorem c_X8_hasRoomForFeed (l : Launch) (G : GT) (N : Nat) (uT : Nat → Nat) (sT : Nat → Nat → Int32) (iT : Nat → Int32) (jT : Nat → Int64) {r : Int32} (hf : f_X8_hasRoomForFeed N sT iT jT = some r) : CI l G yX8_hasRoomForFeed cX8_hasRoomForFeed 1 .boolean 1 [.ref (uT 0)] (gT G uT sT iT jT) r (gT G uT sT iT jT) := by
  refine CI.of (by decide) (Nat.le_of_ble_eq_true rfl) ?_
  intro p e s m args below meth c A X hA hP hD hS ls hl
  have hl : lv_has ls 1 [(0, .ref (uT 0))] := hl
  generalize hQ : MQ below (QI G A r (gT G uT sT iT jT)) args s 0 0 A = QQ
  unfold f_X8_hasRoomForFeed at hf
  refine lv_aload_n X.hx X.hb dX8_hasRoomForFeed_0 rfl (lv_at hl 0 rfl) ?_
  refine gf_X8_35 X hP 0 rfl (v := .int (iT 1)) rfl dX8_hasRoomForFeed_1 ?_
  refine lv_sipush (v := 920) X.hx X.hb dX8_hasRoomForFeed_4 (by decide) ?_
  refine lv_icmp_gt (tgt := 14) X.hx X.hb dX8_hasRoomForFeed_7 (by decide) (fun hc_1 => ?_) (fun hc_1 => ?_)
  · replace hf := if_t hf hc_1
    refine lv_iconst (v := 0) X.hx X.hb dX8_hasRoomForFeed_14 (by decide) ?_
    cases hf
    subst hQ
    exact r_zret X hP hD hS (by decide) dX8_hasRoomForFeed_15
  · replace hf := if_f hf hc_1
    refine lv_iconst (v := 1) X.hx X.hb dX8_hasRoomForFeed_10 (by decide) ?_
    refine lv_goto (tgt := 15) X.hx X.hb dX8_hasRoomForFeed_11 (by decide) ?_
    cases hf
    subst hQ
    exact r_zret X hP hD hS (by decide) dX8_hasRoomForFeed_15

def f_X8_append_3 (N : Nat) (jT : Nat → Int64) (v1 : Int32) : Nat → (Nat → Nat → Int32) → (Nat → Int32) → (Int32) → Option ((Nat → Nat → Int32) × (Nat → Int32))
  | 0, _, _, _ => none
  | k + 1, sT, iT, v2 => (if v2 < 0 then some (sT, iT) else (if (940 : Int32) ≤ (iT 1) then some (sT, iT) else ck (iT 1) 940 (nv (upd (sT 0) (ix (iT 1)) ((us v1 v2) &&& 255)) (fun g_12 => f_X8_append_3 N jT v1 k (va_up sT 0 g_12) (va_up iT 1 ((iT 1) + 1)) (v2 + (-8))))))
def f_X8_append (N : Nat) (sT : Nat → Nat → Int32) (iT : Nat → Int32) (jT : Nat → Int64) (p1 : Int32) : Option ((Nat → Nat → Int32) × (Nat → Int32)) :=
  f_X8_append_3 N jT p1 N sT iT 24
set_option maxHeartbeats 4000000 in
set_option maxRecDepth 100000 in
theorem c_X8_append (l : Launch) (G : GT) (N : Nat) (uT : Nat → Nat) (sT : Nat → Nat → Int32) (iT : Nat → Int32) (jT : Nat → Int64) (p1 : Int32) {sT' : Nat → Nat → Int32} {iT' : Nat → Int32} (hf : f_X8_append N sT iT jT p1 = some (sT', iT')) : CV l G yX8_append cX8_append 3 1 [.ref (uT 0), .int p1] (gT G uT sT iT jT) (gT G uT sT' iT' jT) := by
  refine CV.of (by decide) (Nat.le_of_ble_eq_true rfl) ?_
  intro p e s m args below meth c A X hA hP hD hS ls hl
  have hl : lv_has ls 3 [(0, .ref (uT 0)), (1, .int p1)] := hl
  generalize hQ : MQ below (QV G A (gT G uT sT' iT' jT)) args s 0 0 A = QQ
  unfold f_X8_append at hf
  refine lv_bipush (v := 24) X.hx X.hb dX8_append_0 (by decide) ?_
  refine lv_istore_n (lv' := [(2, .int 24), (0, .ref (uT 0)), (1, .int p1)]) X.hx X.hb dX8_append_2 rfl hl (by decide) rfl (fun ls hl => ?_)
  have hlo_1 : ∀ (k : Nat) (sT_2 : Nat → Nat → Int32) (iT_3 : Nat → Int32) (v2_4 : Int32) (H : Heap) (locs : List Loc) (ls : Array Slot), f_X8_append_3 N jT p1 k sT_2 iT_3 v2_4 = some (sT', iT') → va_P G.1 vwCl (gT G uT sT_2 iT_3 jT) H → va_D A (gT G uT sT_2 iT_3 jT) → va_S A s.heap H locs → lv_has ls 3 [(0, .ref (uT 0)), (1, .int p1), (2, .int v2_4)] → W p l e (RM 1) s m args below meth c H locs 0 0 QQ (F0 m 3 ls []) := by
    intro k
    induction k with
    | zero => intro sT_2 iT_3 v2_4 H locs ls hf; exact absurd hf (by intro q; cases q)
    | succ k ih =>
      intro sT_2 iT_3 v2_4 H locs ls hf hP hD hS hl
      unfold f_X8_append_3 at hf
      refine lv_iload_n X.hx X.hb dX8_append_3 rfl (lv_at hl 2 rfl) ?_
      refine lv_if_lt (tgt := 49) X.hx X.hb dX8_append_4 (by decide) (fun hc_5 => ?_) (fun hc_5 => ?_)
      · replace hf := if_t hf hc_5
        cases hf
        subst hQ
        exact r_vret X hP hD hS dX8_append_49
      · replace hf := if_f hf hc_5
        refine lv_aload_n X.hx X.hb dX8_append_7 rfl (lv_at hl 0 rfl) ?_
        refine gf_X8_35 X hP 0 rfl (v := .int (iT_3 1)) rfl dX8_append_8 ?_
        refine lv_sipush (v := 940) X.hx X.hb dX8_append_11 (by decide) ?_
        refine lv_icmp_ge (tgt := 49) X.hx X.hb dX8_append_14 (by decide) (fun hc_6 => ?_) (fun hc_6 => ?_)
        · replace hf := if_t hf hc_6
          cases hf
          subst hQ
          exact r_vret X hP hD hS dX8_append_49
        · replace hf := if_f hf hc_6
          refine lv_aload_n X.hx X.hb dX8_append_17 rfl (lv_at hl 0 rfl) ?_
          refine gf_X8_11 X hP 0 rfl (v := .ref (uT 1)) rfl dX8_append_18 ?_
          refine lv_aload_n X.hx X.hb dX8_append_21 rfl (lv_at hl 0 rfl) ?_
          refine gf_X8_35 X hP 0 rfl (v := .int (iT_3 1)) rfl dX8_append_22 ?_
          refine lv_iload_n X.hx X.hb dX8_append_25 rfl (lv_at hl 1 rfl) ?_
          refine lv_iload_n X.hx X.hb dX8_append_26 rfl (lv_at hl 2 rfl) ?_
          refine lv_iushr (v := (us p1 v2_4)) X.hx X.hb dX8_append_27 rfl ?_
          refine lv_sipush (v := 255) X.hx X.hb dX8_append_28 (by decide) ?_
          refine lv_iand X.hx X.hb dX8_append_31 ?_
          obtain ⟨hi_7, hf⟩ := ck_i hf
          obtain ⟨g_8, eg_8, hf⟩ := nv_i hf
          refine r_iast X hP hD hS 1 (f := (sT_2 0)) rfl hi_7 (wo := (gT G uT (va_up sT_2 0 g_8) iT_3 jT)) (by subst eg_8; rfl) dX8_append_32 (fun H locs hP hD hS => ?_)
          refine lv_aload_n X.hx X.hb dX8_append_33 rfl (lv_at hl 0 rfl) ?_
          refine lv_dup X.hx X.hb dX8_append_34 rfl ?_
          refine gf_X8_35 X hP 0 rfl (v := .int (iT_3 1)) rfl dX8_append_35 ?_
          refine lv_iconst (v := 1) X.hx X.hb dX8_append_38 (by decide) ?_
          refine lv_iadd X.hx X.hb dX8_append_39 ?_
          refine pf_X8_35 X hP hD hS 0 rfl rfl rfl (Nat.le_of_ble_eq_true rfl) (wo := (gT G uT (va_up sT_2 0 g_8) (va_up iT_3 1 ((iT_3 1) + 1)) jT)) rfl dX8_append_40 (fun H locs hP hD hS => ?_)
          refine lv_iinc (v := (v2_4 + (-8))) (lv' := [(2, .int (v2_4 + (-8))), (0, .ref (uT 0)), (1, .int p1)]) X.hx X.hb dX8_append_43 hl (k := 2) rfl rfl (by decide) rfl (fun ls hl => ?_)
          refine lv_goto (tgt := 3) X.hx X.hb dX8_append_46 (by decide) ?_
          exact ih _ _ _ _ _ _ hf hP hD hS (lv_sub hl [1, 2, 0] rfl)
  exact hlo_1 N _ _ _ _ _ _ hf hP hD hS (lv_sub hl [1, 2, 0] rfl)

def f_X8_readRun_12 (N : Nat) (sT : Nat → Nat → Int32) (K_1 : ((Int32) × (Nat → Int32) × (Nat → Int64)) → Option ((Nat → Int32) × (Nat → Int64))) : Nat → (Nat → Int32) → (Nat → Int64) → (Int32) → Option ((Nat → Int32) × (Nat → Int64))
  | 0, _, _, _ => none
  | k + 1, iT, jT, v1 => (if (iT 1) ≤ (iT 4) then K_1 (v1, iT, jT) else ck (iT 4) 940 (nv ((sT 0) (ix (iT 4))) (fun n_42 => jn (fun (z : (Int32) × (Nat → Int32) × (Nat → Int64)) => match z with | (x1_46, iT_47, jT_48) => f_X8_readRun_12 N sT K_1 k (va_up iT_47 4 ((iT_47 4) + 1)) jT_48 x1_46) (fun K_43 => jn (fun (z : Unit) => match z with | () => (if n_42 < 97 then K_1 (v1, iT, jT) else (if (122 : Int32) < n_42 then K_1 (v1, iT, jT) else nv ((((jT 10) * 32) + (n_42.toInt64)) - 96) (fun n_54 => K_43 (v1, iT, (va_up jT 10 n_54)))))) (fun K_49 => (if n_42 < 48 then K_49 () else (if (57 : Int32) < n_42 then K_49 () else nv ((((iT 9) * 10) + n_42) - 48) (fun n_57 => K_43 ((v1 + 1), (va_up iT 9 n_57), jT)))))))))
def f_X8_readRun (N : Nat) (sT : Nat → Nat → Int32) (iT : Nat → Int32) (jT : Nat → Int64) : Option ((Nat → Int32) × (Nat → Int64)) :=
  jn (fun (z : (Int32) × (Nat → Int32) × (Nat → Int64)) => match z with | (x1_4, iT_5, jT_6) => nv ((iT_5 4) - (iT_5 6)) (fun n_7 => jn (fun (z : Unit) => match z with | () => jn (fun (z : Unit) => match z with | () => some ((va_up iT_5 5 4), jT_6)) (fun K_11 => (if x1_4 = n_7 then (if (3 : Int32) < n_7 then K_11 () else some ((va_up iT_5 5 2), jT_6)) else K_11 ()))) (fun K_8 => (if x1_4 = 0 then (if (7 : Int32) < n_7 then K_8 () else some ((va_up iT_5 5 1), jT_6)) else K_8 ())))) (fun K_1 => f_X8_readRun_12 N sT K_1 N (va_up iT 9 0) (va_up jT 10 0) 0)
set_option maxHeartbeats 4000000 in
set_option maxRecDepth 100000 in
theorem c_X8_readRun (l : Launch) (G : GT) (N : Nat) (uT : Nat → Nat) (sT : Nat → Nat → Int32) (iT : Nat → Int32) (jT : Nat → Int64) {iT' : Nat → Int32} {jT' : Nat → Int64} (hf : f_X8_readRun N sT iT jT = some (iT', jT')) : CV l G yX8_readRun cX8_readRun 3 1 [.ref (uT 0)] (gT G uT sT iT jT) (gT G uT sT iT' jT') := by
  refine CV.of (by decide) (Nat.le_of_ble_eq_true rfl) ?_
  intro p e s m args below meth c A X hA hP hD hS ls hl
  have hl : lv_has ls 3 [(0, .ref (uT 0))] := hl
  generalize hQ : MQ below (QV G A (gT G uT sT iT' jT')) args s 0 0 A = QQ
  unfold f_X8_readRun at hf
  refine lv_iconst (v := 0) X.hx X.hb dX8_readRun_0 (by decide) ?_
  refine lv_istore_n (lv' := [(1, .int 0), (0, .ref (uT 0))]) X.hx X.hb dX8_readRun_1 rfl hl (by decide) rfl (fun ls hl => ?_)
  refine lv_aload_n X.hx X.hb dX8_readRun_2 rfl (lv_at hl 1 rfl) ?_
  refine lv_lconst (v := 0) X.hx X.hb dX8_readRun_3 rfl ?_
  refine pf_X8_82 X hP hD hS 0 rfl rfl rfl (Nat.le_of_ble_eq_true rfl) (wo := (gT G uT sT iT (va_up jT 10 0))) rfl dX8_readRun_4 (fun H locs hP hD hS => ?_)
  refine lv_aload_n X.hx X.hb dX8_readRun_7 rfl (lv_at hl 1 rfl) ?_
  refine lv_iconst (v := 0) X.hx X.hb dX8_readRun_8 (by decide) ?_
  refine pf_X8_90 X hP hD hS 0 rfl rfl rfl (Nat.le_of_ble_eq_true rfl) (wo := (gT G uT sT (va_up iT 9 0) (va_up jT 10 0))) rfl dX8_readRun_9 (fun H locs hP hD hS => ?_)
  obtain ⟨K_1, eK_3, hf⟩ := jn_i hf
  have hj_2 : ∀ (x1_4 : Int32) (iT_5 : Nat → Int32) (jT_6 : Nat → Int64) (H : Heap) (locs : List Loc) (ls : Array Slot), K_1 (x1_4, iT_5, jT_6) = some (iT', jT') → va_P G.1 vwCl (gT G uT sT iT_5 jT_6) H → va_D A (gT G uT sT iT_5 jT_6) → va_S A s.heap H locs → lv_has ls 3 [(0, .ref (uT 0)), (1, .int x1_4)] → W p l e (RM 1) s m args below meth c H locs 0 0 QQ (F0 m 111 ls []) := by
    intro x1_4 iT_5 jT_6 H locs ls hf hP hD hS hl
    rw [eK_3] at hf
    try dsimp only at hf
    refine lv_aload_n X.hx X.hb dX8_readRun_111 rfl (lv_at hl 0 rfl) ?_
    refine gf_X8_51 X hP 0 rfl (v := .int (iT_5 4)) rfl dX8_readRun_112 ?_
    refine lv_aload_n X.hx X.hb dX8_readRun_115 rfl (lv_at hl 0 rfl) ?_
    refine gf_X8_63 X hP 0 rfl (v := .int (iT_5 6)) rfl dX8_readRun_116 ?_
    refine lv_isub X.hx X.hb dX8_readRun_119 ?_
    obtain ⟨n_7, en_7, hf⟩ := nv_i hf
    refine r_nm en_7 ?_
    refine lv_istore_n (lv' := [(2, .int n_7), (0, .ref (uT 0)), (1, .int x1_4)]) X.hx X.hb dX8_readRun_120 rfl hl (by decide) rfl (fun ls hl => ?_)
    refine lv_iload_n X.hx X.hb dX8_readRun_121 rfl (lv_at hl 2 rfl) ?_
    obtain ⟨K_8, eK_10, hf⟩ := jn_i hf
    have hj_9 : ∀ (H : Heap) (locs : List Loc) (ls : Array Slot), K_8 () = some (iT', jT') → va_P G.1 vwCl (gT G uT sT iT_5 jT_6) H → va_D A (gT G uT sT iT_5 jT_6) → va_S A s.heap H locs → lv_has ls 3 [(0, .ref (uT 0)), (1, .int x1_4), (2, .int n_7)] → W p l e (RM 1) s m args below meth c H locs 0 0 QQ (F0 m 139 ls []) := by
      intro  H locs ls hf hP hD hS hl
      rw [eK_10] at hf
      try dsimp only at hf
      refine lv_iload_n X.hx X.hb dX8_readRun_139 rfl (lv_at hl 1 rfl) ?_
      refine lv_iload_n X.hx X.hb dX8_readRun_140 rfl (lv_at hl 2 rfl) ?_
      obtain ⟨K_11, eK_13, hf⟩ := jn_i hf
      have hj_12 : ∀ (H : Heap) (locs : List Loc) (ls : Array Slot), K_11 () = some (iT', jT') → va_P G.1 vwCl (gT G uT sT iT_5 jT_6) H → va_D A (gT G uT sT iT_5 jT_6) → va_S A s.heap H locs → lv_has ls 3 [(0, .ref (uT 0))] → W p l e (RM 1) s m args below meth c H locs 0 0 QQ (F0 m 157 ls []) := by
        intro  H locs ls hf hP hD hS hl
        rw [eK_13] at hf
        try dsimp only at hf
        refine lv_aload_n X.hx X.hb dX8_readRun_157 rfl (lv_at hl 0 rfl) ?_
        refine lv_iconst (v := 4) X.hx X.hb dX8_readRun_158 (by decide) ?_
        refine pf_X8_72 X hP hD hS 0 rfl rfl rfl (Nat.le_of_ble_eq_true rfl) (wo := (gT G uT sT (va_up iT_5 5 4) jT_6)) rfl dX8_readRun_159 (fun H locs hP hD hS => ?_)
        cases hf
        subst hQ
        exact r_vret X hP hD hS dX8_readRun_162
      refine lv_icmp_ne (tgt := 157) X.hx X.hb dX8_readRun_141 (by decide) (fun hc_14 => ?_) (fun hc_14 => ?_)
      · replace hf := if_f hf hc_14
        exact hj_12 _ _ _ hf hP hD hS (lv_sub hl [0] rfl)
      · replace hf := if_t hf hc_14
        refine lv_iload_n X.hx X.hb dX8_readRun_144 rfl (lv_at hl 2 rfl) ?_
        refine lv_iconst (v := 3) X.hx X.hb dX8_readRun_145 (by decide) ?_
        refine lv_icmp_gt (tgt := 157) X.hx X.hb dX8_readRun_146 (by decide) (fun hc_15 => ?_) (fun hc_15 => ?_)
        · replace hf := if_t hf hc_15
          exact hj_12 _ _ _ hf hP hD hS (lv_sub hl [0] rfl)
        · replace hf := if_f hf hc_15
          refine lv_aload_n X.hx X.hb dX8_readRun_149 rfl (lv_at hl 0 rfl) ?_
          refine lv_iconst (v := 2) X.hx X.hb dX8_readRun_150 (by decide) ?_
          refine pf_X8_72 X hP hD hS 0 rfl rfl rfl (Nat.le_of_ble_eq_true rfl) (wo := (gT G uT sT (va_up iT_5 5 2) jT_6)) rfl dX8_readRun_151 (fun H locs hP hD hS => ?_)
          refine lv_goto (tgt := 162) X.hx X.hb dX8_readRun_154 (by decide) ?_
          cases hf
          subst hQ
          exact r_vret X hP hD hS dX8_readRun_162
    refine lv_if_ne (tgt := 139) X.hx X.hb dX8_readRun_122 (by decide) (fun hc_16 => ?_) (fun hc_16 => ?_)
    · replace hf := if_f hf hc_16
      exact hj_9 _ _ _ hf hP hD hS (lv_sub hl [1, 2, 0] rfl)
    · replace hf := if_t hf hc_16
      refine lv_iload_n X.hx X.hb dX8_readRun_125 rfl (lv_at hl 0 rfl) ?_
      refine lv_bipush (v := 7) X.hx X.hb dX8_readRun_126 (by decide) ?_
      refine lv_icmp_gt (tgt := 139) X.hx X.hb dX8_readRun_128 (by decide) (fun hc_17 => ?_) (fun hc_17 => ?_)
      · replace hf := if_t hf hc_17
        exact hj_9 _ _ _ hf hP hD hS (lv_sub hl [1, 2, 0] rfl)
      · replace hf := if_f hf hc_17
        refine lv_aload_n X.hx X.hb dX8_readRun_131 rfl (lv_at hl 1 rfl) ?_
        refine lv_iconst (v := 1) X.hx X.hb dX8_readRun_132 (by decide) ?_
        refine pf_X8_72 X hP hD hS 0 rfl rfl rfl (Nat.le_of_ble_eq_true rfl) (wo := (gT G uT sT (va_up iT_5 5 1) jT_6)) rfl dX8_readRun_133 (fun H locs hP hD hS => ?_)
        refine lv_goto (tgt := 162) X.hx X.hb dX8_readRun_136 (by decide) ?_
        cases hf
        subst hQ
        exact r_vret X hP hD hS dX8_readRun_162
  have hlo_18 : ∀ (k : Nat) (iT_19 : Nat → Int32) (jT_20 : Nat → Int64) (v1_21 : Int32) (H : Heap) (locs : List Loc) (ls : Array Slot), f_X8_readRun_12 N sT K_1 k iT_19 jT_20 v1_21 = some (iT', jT') → va_P G.1 vwCl (gT G uT sT iT_19 jT_20) H → va_D A (gT G uT sT iT_19 jT_20) → va_S A s.heap H locs → lv_has ls 3 [(0, .ref (uT 0)), (1, .int v1_21)] → W p l e (RM 1) s m args below meth c H locs 0 0 QQ (F0 m 12 ls []) := by
    intro k
    induction k with
    | zero => intro iT_19 jT_20 v1_21 H locs ls hf; exact absurd hf (by intro q; cases q)
    | succ k ih =>
      intro iT_19 jT_20 v1_21 H locs ls hf hP hD hS hl
      unfold f_X8_readRun_12 at hf
      refine lv_aload_n X.hx X.hb dX8_readRun_12 rfl (lv_at hl 0 rfl) ?_
      refine gf_X8_51 X hP 0 rfl (v := .int (iT_19 4)) rfl dX8_readRun_13 ?_
      refine lv_aload_n X.hx X.hb dX8_readRun_16 rfl (lv_at hl 0 rfl) ?_
      refine gf_X8_35 X hP 0 rfl (v := .int (iT_19 1)) rfl dX8_readRun_17 ?_
      refine lv_icmp_ge (tgt := 111) X.hx X.hb dX8_readRun_20 (by decide) (fun hc_22 => ?_) (fun hc_22 => ?_)
      · replace hf := if_t hf hc_22
        exact hj_2 _ _ _ _ _ _ hf hP hD hS (lv_sub hl [0, 1] rfl)
      · replace hf := if_f hf hc_22
        refine lv_aload_n X.hx X.hb dX8_readRun_23 rfl (lv_at hl 0 rfl) ?_
        refine gf_X8_11 X hP 0 rfl (v := .ref (uT 1)) rfl dX8_readRun_24 ?_
        refine lv_aload_n X.hx X.hb dX8_readRun_27 rfl (lv_at hl 0 rfl) ?_
        refine gf_X8_51 X hP 0 rfl (v := .int (iT_19 4)) rfl dX8_readRun_28 ?_
        obtain ⟨hi_23, hf⟩ := ck_i hf
        refine r_iald X hP 1 (f := (sT 0)) rfl hi_23 dX8_readRun_31 ?_
        obtain ⟨n_24, en_24, hf⟩ := nv_i hf
        refine r_nm en_24 ?_
        refine lv_istore_n (lv' := [(2, .int n_24), (0, .ref (uT 0)), (1, .int v1_21)]) X.hx X.hb dX8_readRun_32 rfl hl (by decide) rfl (fun ls hl => ?_)
        refine lv_iload_n X.hx X.hb dX8_readRun_33 rfl (lv_at hl 0 rfl) ?_
        refine lv_bipush (v := 48) X.hx X.hb dX8_readRun_34 (by decide) ?_
        obtain ⟨K_25, eK_27, hf⟩ := jn_i hf
        have hj_26 : ∀ (x1_28 : Int32) (iT_29 : Nat → Int32) (jT_30 : Nat → Int64) (H : Heap) (locs : List Loc) (ls : Array Slot), K_25 (x1_28, iT_29, jT_30) = some (iT', jT') → va_P G.1 vwCl (gT G uT sT iT_29 jT_30) H → va_D A (gT G uT sT iT_29 jT_30) → va_S A s.heap H locs → lv_has ls 3 [(0, .ref (uT 0)), (1, .int x1_28)] → W p l e (RM 1) s m args below meth c H locs 0 0 QQ (F0 m 98 ls []) := by
          intro x1_28 iT_29 jT_30 H locs ls hf hP hD hS hl
          rw [eK_27] at hf
          try dsimp only at hf
          refine lv_aload_n X.hx X.hb dX8_readRun_98 rfl (lv_at hl 0 rfl) ?_
          refine lv_dup X.hx X.hb dX8_readRun_99 rfl ?_
          refine gf_X8_51 X hP 0 rfl (v := .int (iT_29 4)) rfl dX8_readRun_100 ?_
          refine lv_iconst (v := 1) X.hx X.hb dX8_readRun_103 (by decide) ?_
          refine lv_iadd X.hx X.hb dX8_readRun_104 ?_
          refine pf_X8_51 X hP hD hS 0 rfl rfl rfl (Nat.le_of_ble_eq_true rfl) (wo := (gT G uT sT (va_up iT_29 4 ((iT_29 4) + 1)) jT_30)) rfl dX8_readRun_105 (fun H locs hP hD hS => ?_)
          refine lv_goto (tgt := 12) X.hx X.hb dX8_readRun_108 (by decide) ?_
          exact ih _ _ _ _ _ _ hf hP hD hS (lv_sub hl [0, 1] rfl)
        obtain ⟨K_31, eK_33, hf⟩ := jn_i hf
        have hj_32 : ∀ (H : Heap) (locs : List Loc) (ls : Array Slot), K_31 () = some (iT', jT') → va_P G.1 vwCl (gT G uT sT iT_19 jT_20) H → va_D A (gT G uT sT iT_19 jT_20) → va_S A s.heap H locs → lv_has ls 3 [(0, .ref (uT 0)), (1, .int v1_21), (2, .int n_24)] → W p l e (RM 1) s m args below meth c H locs 0 0 QQ (F0 m 67 ls []) := by
          intro  H locs ls hf hP hD hS hl
          rw [eK_33] at hf
          try dsimp only at hf
          refine lv_iload_n X.hx X.hb dX8_readRun_67 rfl (lv_at hl 2 rfl) ?_
          refine lv_bipush (v := 97) X.hx X.hb dX8_readRun_68 (by decide) ?_
          refine lv_icmp_lt (tgt := 111) X.hx X.hb dX8_readRun_70 (by decide) (fun hc_34 => ?_) (fun hc_34 => ?_)
          · replace hf := if_t hf hc_34
            exact hj_2 _ _ _ _ _ _ hf hP hD hS (lv_sub hl [0, 1] rfl)
          · replace hf := if_f hf hc_34
            refine lv_iload_n X.hx X.hb dX8_readRun_73 rfl (lv_at hl 2 rfl) ?_
            refine lv_bipush (v := 122) X.hx X.hb dX8_readRun_74 (by decide) ?_
            refine lv_icmp_gt (tgt := 111) X.hx X.hb dX8_readRun_76 (by decide) (fun hc_35 => ?_) (fun hc_35 => ?_)
            · replace hf := if_t hf hc_35
              exact hj_2 _ _ _ _ _ _ hf hP hD hS (lv_sub hl [0, 1] rfl)
            · replace hf := if_f hf hc_35
              refine lv_aload_n X.hx X.hb dX8_readRun_79 rfl (lv_at hl 0 rfl) ?_
              refine lv_aload_n X.hx X.hb dX8_readRun_80 rfl (lv_at hl 0 rfl) ?_
              refine gf_X8_82 X hP 0 rfl (v := .long (jT_20 10)) rfl dX8_readRun_81 ?_
              refine lv_ldc2 (v := 32) X.hx X.hb X.hown (X.hts _ tw_88) dX8_readRun_84 ?_
              refine lv_lmul X.hx X.hb dX8_readRun_87 ?_
              refine lv_iload_n X.hx X.hb dX8_readRun_88 rfl (lv_at hl 2 rfl) ?_
              refine lv_i2l (v := (n_24.toInt64)) X.hx X.hb dX8_readRun_89 rfl ?_
              refine lv_ladd X.hx X.hb dX8_readRun_90 ?_
              refine lv_ldc2 (v := 96) X.hx X.hb X.hown (X.hts _ tw_89) dX8_readRun_91 ?_
              refine lv_lsub X.hx X.hb dX8_readRun_94 ?_
              obtain ⟨n_36, en_36, hf⟩ := nv_i hf
              refine r_nml en_36 ?_
              refine pf_X8_82 X hP hD hS 0 rfl rfl rfl (Nat.le_of_ble_eq_true rfl) (wo := (gT G uT sT iT_19 (va_up jT_20 10 n_36))) rfl dX8_readRun_95 (fun H locs hP hD hS => ?_)
              exact hj_26 _ _ _ _ _ _ hf hP hD hS (lv_sub hl [0, 1] rfl)
        refine lv_icmp_lt (tgt := 67) X.hx X.hb dX8_readRun_36 (by decide) (fun hc_37 => ?_) (fun hc_37 => ?_)
        · replace hf := if_t hf hc_37
          exact hj_32 _ _ _ hf hP hD hS (lv_sub hl [1, 2, 0] rfl)
        · replace hf := if_f hf hc_37
          refine lv_iload_n X.hx X.hb dX8_readRun_39 rfl (lv_at hl 0 rfl) ?_
          refine lv_bipush (v := 57) X.hx X.hb dX8_readRun_40 (by decide) ?_
          refine lv_icmp_gt (tgt := 67) X.hx X.hb dX8_readRun_42 (by decide) (fun hc_38 => ?_) (fun hc_38 => ?_)
          · replace hf := if_t hf hc_38
            exact hj_32 _ _ _ hf hP hD hS (lv_sub hl [1, 2, 0] rfl)
          · replace hf := if_f hf hc_38
            refine lv_aload_n X.hx X.hb dX8_readRun_45 rfl (lv_at hl 1 rfl) ?_
            refine lv_aload_n X.hx X.hb dX8_readRun_46 rfl (lv_at hl 1 rfl) ?_
            refine gf_X8_90 X hP 0 rfl (v := .int (iT_19 9)) rfl dX8_readRun_47 ?_
            refine lv_bipush (v := 10) X.hx X.hb dX8_readRun_50 (by decide) ?_
            refine lv_imul X.hx X.hb dX8_readRun_52 ?_
            refine lv_iload_n X.hx X.hb dX8_readRun_53 rfl (lv_at hl 0 rfl) ?_
            refine lv_iadd X.hx X.hb dX8_readRun_54 ?_
            refine lv_bipush (v := 48) X.hx X.hb dX8_readRun_55 (by decide) ?_
            refine lv_isub X.hx X.hb dX8_readRun_57 ?_
            obtain ⟨n_39, en_39, hf⟩ := nv_i hf
            refine r_nm en_39 ?_
            refine pf_X8_90 X hP hD hS 0 rfl rfl rfl (Nat.le_of_ble_eq_true rfl) (wo := (gT G uT sT (va_up iT_19 9 n_39) jT_20)) rfl dX8_readRun_58 (fun H locs hP hD hS => ?_)
            refine lv_iinc (v := (v1_21 + 1)) (lv' := [(1, .int (v1_21 + 1)), (2, .int n_24), (0, .ref (uT 0))]) X.hx X.hb dX8_readRun_61 hl (k := 2) rfl rfl (by decide) rfl (fun ls hl => ?_)
            refine lv_goto (tgt := 98) X.hx X.hb dX8_readRun_64 (by decide) ?_
            exact hj_26 _ _ _ _ _ _ hf hP hD hS (lv_sub hl [2, 0] rfl)
  exact hlo_18 N _ _ _ _ _ _ hf hP hD hS (lv_sub hl [1, 0] rfl)

def f_X8_readSign (N : Nat) (sT : Nat → Nat → Int32) (iT : Nat → Int32) (jT : Nat → Int64) (p1 : Int32) : Option ((Nat → Int32)) :=
  jn (fun (z : (Int32)) => match z with | y_4 => jn (fun (z : (Int32)) => match z with | y_8 => jn (fun (z : (Int32)) => match z with | y_12 => some (va_up (va_up (va_up iT 5 y_8) 8 y_12) 4 ((iT 4) + 1))) (fun K_9 => (if y_4 = 0 then K_9 (-1) else K_9 p1))) (fun K_5 => (if y_4 = 0 then K_5 4 else K_5 3))) (fun K_1 => jn (fun (z : Unit) => match z with | () => K_1 1) (fun K_15 => (if p1 = 59 then K_15 () else (if p1 = 60 then K_15 () else (if p1 = 61 then K_15 () else (if p1 = 62 then K_15 () else (if p1 = 40 then K_15 () else (if p1 = 41 then K_15 () else K_1 0))))))))
set_option maxHeartbeats 4000000 in
set_option maxRecDepth 100000 in
theorem c_X8_readSign (l : Launch) (G : GT) (N : Nat) (uT : Nat → Nat) (sT : Nat → Nat → Int32) (iT : Nat → Int32) (jT : Nat → Int64) (p1 : Int32) {iT' : Nat → Int32} (hf : f_X8_readSign N sT iT jT p1 = some iT') : CV l G yX8_readSign cX8_readSign 3 1 [.ref (uT 0), .int p1] (gT G uT sT iT jT) (gT G uT sT iT' jT) := by
  refine CV.of (by decide) (Nat.le_of_ble_eq_true rfl) ?_
  intro p e s m args below meth c A X hA hP hD hS ls hl
  have hl : lv_has ls 3 [(0, .ref (uT 0)), (1, .int p1)] := hl
  generalize hQ : MQ below (QV G A (gT G uT sT iT' jT)) args s 0 0 A = QQ
  unfold f_X8_readSign at hf
  refine lv_iload_n X.hx X.hb dX8_readSign_0 rfl (lv_at hl 1 rfl) ?_
  refine lv_bipush (v := 59) X.hx X.hb dX8_readSign_1 (by decide) ?_
  obtain ⟨K_1, eK_3, hf⟩ := jn_i hf
  have hj_2 : ∀ (y_4 : Int32) (H : Heap) (locs : List Loc) (ls : Array Slot), K_1 y_4 = some iT' → va_P G.1 vwCl (gT G uT sT iT jT) H → va_D A (gT G uT sT iT jT) → va_S A s.heap H locs → lv_has ls 3 [(0, .ref (uT 0)), (1, .int p1)] → W p l e (RM 1) s m args below meth c H locs 0 0 QQ (F0 m 41 ls [.int y_4]) := by
    intro y_4 H locs ls hf hP hD hS hl
    rw [eK_3] at hf
    try dsimp only at hf
    refine lv_istore_n (lv' := [(2, .int y_4), (0, .ref (uT 0)), (1, .int p1)]) X.hx X.hb dX8_readSign_41 rfl hl (by decide) rfl (fun ls hl => ?_)
    refine lv_aload_n X.hx X.hb dX8_readSign_42 rfl (lv_at hl 1 rfl) ?_
    refine lv_iload_n X.hx X.hb dX8_readSign_43 rfl (lv_at hl 0 rfl) ?_
    obtain ⟨K_5, eK_7, hf⟩ := jn_i hf
    have hj_6 : ∀ (y_8 : Int32) (H : Heap) (locs : List Loc) (ls : Array Slot), K_5 y_8 = some iT' → va_P G.1 vwCl (gT G uT sT iT jT) H → va_D A (gT G uT sT iT jT) → va_S A s.heap H locs → lv_has ls 3 [(0, .ref (uT 0)), (1, .int p1), (2, .int y_4)] → W p l e (RM 1) s m args below meth c H locs 0 0 QQ (F0 m 52 ls [.int y_8, .ref (uT 0)]) := by
      intro y_8 H locs ls hf hP hD hS hl
      rw [eK_7] at hf
      try dsimp only at hf
      refine pf_X8_72 X hP hD hS 0 rfl rfl rfl (Nat.le_of_ble_eq_true rfl) (wo := (gT G uT sT (va_up iT 5 y_8) jT)) rfl dX8_readSign_52 (fun H locs hP hD hS => ?_)
      refine lv_aload_n X.hx X.hb dX8_readSign_55 rfl (lv_at hl 0 rfl) ?_
      refine lv_iload_n X.hx X.hb dX8_readSign_56 rfl (lv_at hl 2 rfl) ?_
      obtain ⟨K_9, eK_11, hf⟩ := jn_i hf
      have hj_10 : ∀ (y_12 : Int32) (H : Heap) (locs : List Loc) (ls : Array Slot), K_9 y_12 = some iT' → va_P G.1 vwCl (gT G uT sT (va_up iT 5 y_8) jT) H → va_D A (gT G uT sT (va_up iT 5 y_8) jT) → va_S A s.heap H locs → lv_has ls 3 [(0, .ref (uT 0))] → W p l e (RM 1) s m args below meth c H locs 0 0 QQ (F0 m 65 ls [.int y_12, .ref (uT 0)]) := by
        intro y_12 H locs ls hf hP hD hS hl
        rw [eK_11] at hf
        try dsimp only at hf
        refine pf_X8_69 X hP hD hS 0 rfl rfl rfl (Nat.le_of_ble_eq_true rfl) (wo := (gT G uT sT (va_up (va_up iT 5 y_8) 8 y_12) jT)) rfl dX8_readSign_65 (fun H locs hP hD hS => ?_)
        refine lv_aload_n X.hx X.hb dX8_readSign_68 rfl (lv_at hl 0 rfl) ?_
        refine lv_dup X.hx X.hb dX8_readSign_69 rfl ?_
        refine gf_X8_51 X hP 0 rfl (v := .int (iT 4)) rfl dX8_readSign_70 ?_
        refine lv_iconst (v := 1) X.hx X.hb dX8_readSign_73 (by decide) ?_
        refine lv_iadd X.hx X.hb dX8_readSign_74 ?_
        refine pf_X8_51 X hP hD hS 0 rfl rfl rfl (Nat.le_of_ble_eq_true rfl) (wo := (gT G uT sT (va_up (va_up (va_up iT 5 y_8) 8 y_12) 4 ((iT 4) + 1)) jT)) rfl dX8_readSign_75 (fun H locs hP hD hS => ?_)
        cases hf
        subst hQ
        exact r_vret X hP hD hS dX8_readSign_78
      refine lv_if_eq (tgt := 64) X.hx X.hb dX8_readSign_57 (by decide) (fun hc_13 => ?_) (fun hc_13 => ?_)
      · replace hf := if_t hf hc_13
        refine lv_iconst (v := (-1)) X.hx X.hb dX8_readSign_64 (by decide) ?_
        exact hj_10 _ _ _ _ hf hP hD hS (lv_sub hl [0] rfl)
      · replace hf := if_f hf hc_13
        refine lv_iload_n X.hx X.hb dX8_readSign_60 rfl (lv_at hl 1 rfl) ?_
        refine lv_goto (tgt := 65) X.hx X.hb dX8_readSign_61 (by decide) ?_
        exact hj_10 _ _ _ _ hf hP hD hS (lv_sub hl [0] rfl)
    refine lv_if_eq (tgt := 51) X.hx X.hb dX8_readSign_44 (by decide) (fun hc_14 => ?_) (fun hc_14 => ?_)
    · replace hf := if_t hf hc_14
      refine lv_iconst (v := 4) X.hx X.hb dX8_readSign_51 (by decide) ?_
      exact hj_6 _ _ _ _ hf hP hD hS (lv_sub hl [1, 2, 0] rfl)
    · replace hf := if_f hf hc_14
      refine lv_iconst (v := 3) X.hx X.hb dX8_readSign_47 (by decide) ?_
      refine lv_goto (tgt := 52) X.hx X.hb dX8_readSign_48 (by decide) ?_
      exact hj_6 _ _ _ _ hf hP hD hS (lv_sub hl [1, 2, 0] rfl)
  obtain ⟨K_15, eK_17, hf⟩ := jn_i hf
  have hj_16 : ∀ (H : Heap) (locs : List Loc) (ls : Array Slot), K_15 () = some iT' → va_P G.1 vwCl (gT G uT sT iT jT) H → va_D A (gT G uT sT iT jT) → va_S A s.heap H locs → lv_has ls 3 [(0, .ref (uT 0)), (1, .int p1)] → W p l e (RM 1) s m args below meth c H locs 0 0 QQ (F0 m 36 ls []) := by
    intro  H locs ls hf hP hD hS hl
    rw [eK_17] at hf
    try dsimp only at hf
    refine lv_iconst (v := 1) X.hx X.hb dX8_readSign_36 (by decide) ?_
    refine lv_goto (tgt := 41) X.hx X.hb dX8_readSign_37 (by decide) ?_
    exact hj_2 _ _ _ _ hf hP hD hS (lv_sub hl [0, 1] rfl)
  refine lv_icmp_eq (tgt := 36) X.hx X.hb dX8_readSign_3 (by decide) (fun hc_18 => ?_) (fun hc_18 => ?_)
  · replace hf := if_t hf hc_18
    exact hj_16 _ _ _ hf hP hD hS (lv_sub hl [0, 1] rfl)
  · replace hf := if_f hf hc_18
    refine lv_iload_n X.hx X.hb dX8_readSign_6 rfl (lv_at hl 1 rfl) ?_
    refine lv_bipush (v := 60) X.hx X.hb dX8_readSign_7 (by decide) ?_
    refine lv_icmp_eq (tgt := 36) X.hx X.hb dX8_readSign_9 (by decide) (fun hc_19 => ?_) (fun hc_19 => ?_)
    · replace hf := if_t hf hc_19
      exact hj_16 _ _ _ hf hP hD hS (lv_sub hl [0, 1] rfl)
    · replace hf := if_f hf hc_19
      refine lv_iload_n X.hx X.hb dX8_readSign_12 rfl (lv_at hl 1 rfl) ?_
      refine lv_bipush (v := 61) X.hx X.hb dX8_readSign_13 (by decide) ?_
      refine lv_icmp_eq (tgt := 36) X.hx X.hb dX8_readSign_15 (by decide) (fun hc_20 => ?_) (fun hc_20 => ?_)
      · replace hf := if_t hf hc_20
        exact hj_16 _ _ _ hf hP hD hS (lv_sub hl [0, 1] rfl)
      · replace hf := if_f hf hc_20
        refine lv_iload_n X.hx X.hb dX8_readSign_18 rfl (lv_at hl 1 rfl) ?_
        refine lv_bipush (v := 62) X.hx X.hb dX8_readSign_19 (by decide) ?_
        refine lv_icmp_eq (tgt := 36) X.hx X.hb dX8_readSign_21 (by decide) (fun hc_21 => ?_) (fun hc_21 => ?_)
        · replace hf := if_t hf hc_21
          exact hj_16 _ _ _ hf hP hD hS (lv_sub hl [0, 1] rfl)
        · replace hf := if_f hf hc_21
          refine lv_iload_n X.hx X.hb dX8_readSign_24 rfl (lv_at hl 1 rfl) ?_
          refine lv_bipush (v := 40) X.hx X.hb dX8_readSign_25 (by decide) ?_
          refine lv_icmp_eq (tgt := 36) X.hx X.hb dX8_readSign_27 (by decide) (fun hc_22 => ?_) (fun hc_22 => ?_)
          · replace hf := if_t hf hc_22
            exact hj_16 _ _ _ hf hP hD hS (lv_sub hl [0, 1] rfl)
          · replace hf := if_f hf hc_22
            refine lv_iload_n X.hx X.hb dX8_readSign_30 rfl (lv_at hl 1 rfl) ?_
            refine lv_bipush (v := 41) X.hx X.hb dX8_readSign_31 (by decide) ?_
            refine lv_icmp_ne (tgt := 40) X.hx X.hb dX8_readSign_33 (by decide) (fun hc_23 => ?_) (fun hc_23 => ?_)
            · replace hf := if_f hf hc_23
              refine lv_iconst (v := 0) X.hx X.hb dX8_readSign_40 (by decide) ?_
              exact hj_2 _ _ _ _ hf hP hD hS (lv_sub hl [0, 1] rfl)
            · replace hf := if_t hf hc_23
              exact hj_16 _ _ _ hf hP hD hS (lv_sub hl [0, 1] rfl)

def f_X8_placeInWords_2 (N : Nat) (sT : Nat → Nat → Int32) (iT : Nat → Int32) (jT : Nat → Int64) (v1 : Int64) : Nat → (Int32) → Option (Int32)
  | 0, _ => none
  | k + 1, v3 => (if (24 : Int32) ≤ v3 then some (-1) else ck v3 24 ((if (lg_cmp (RSV (ix v3)) v1) = 0 then some v3 else f_X8_placeInWords_2 N sT iT jT v1 k (v3 + 1))))
def f_X8_placeInWords (N : Nat) (sT : Nat → Nat → Int32) (iT : Nat → Int32) (jT : Nat → Int64) (p1 : Int64) : Option (Int32) :=
  f_X8_placeInWords_2 N sT iT jT p1 N 0
set_option maxHeartbeats 4000000 in
set_option maxRecDepth 100000 in
theorem c_X8_placeInWords (l : Launch) (G : GT) (N : Nat) (uT : Nat → Nat) (sT : Nat → Nat → Int32) (iT : Nat → Int32) (jT : Nat → Int64) (p1 : Int64) {r : Int32} (hf : f_X8_placeInWords N sT iT jT p1 = some r) : CI l G yX8_placeInWords cX8_placeInWords 4 .int 1 [.ref (uT 0), .long p1] (gT G uT sT iT jT) r (gT G uT sT iT jT) := by
  refine CI.of (by decide) (Nat.le_of_ble_eq_true rfl) ?_
  intro p e s m args below meth c A X hA hP hD hS ls hl
  have hl : lv_has ls 4 [(0, .ref (uT 0)), (1, .long p1)] := hl
  generalize hQ : MQ below (QI G A r (gT G uT sT iT jT)) args s 0 0 A = QQ
  unfold f_X8_placeInWords at hf
  refine lv_iconst (v := 0) X.hx X.hb dX8_placeInWords_0 (by decide) ?_
  refine lv_istore_n (lv' := [(3, .int 0), (0, .ref (uT 0)), (1, .long p1)]) X.hx X.hb dX8_placeInWords_1 rfl hl (by decide) rfl (fun ls hl => ?_)
  have hlo_1 : ∀ (k : Nat) (v3_2 : Int32) (H : Heap) (locs : List Loc) (ls : Array Slot), f_X8_placeInWords_2 N sT iT jT p1 k v3_2 = some r → va_P G.1 vwCl (gT G uT sT iT jT) H → va_D A (gT G uT sT iT jT) → va_S A s.heap H locs → lv_has ls 4 [(0, .ref (uT 0)), (1, .long p1), (3, .int v3_2)] → W p l e (RM 1) s m args below meth c H locs 0 0 QQ (F0 m 2 ls []) := by
    intro k
    induction k with
    | zero => intro v3_2 H locs ls hf; exact absurd hf (by intro q; cases q)
    | succ k ih =>
      intro v3_2 H locs ls hf hP hD hS hl
      unfold f_X8_placeInWords_2 at hf
      refine lv_iload_n X.hx X.hb dX8_placeInWords_2 rfl (lv_at hl 2 rfl) ?_
      refine lv_bipush (v := 24) X.hx X.hb dX8_placeInWords_3 (by decide) ?_
      refine lv_icmp_ge (tgt := 27) X.hx X.hb dX8_placeInWords_5 (by decide) (fun hc_3 => ?_) (fun hc_3 => ?_)
      · replace hf := if_t hf hc_3
        refine lv_iconst (v := (-1)) X.hx X.hb dX8_placeInWords_27 (by decide) ?_
        cases hf
        subst hQ
        exact r_iret X hP hD hS dX8_placeInWords_28
      · replace hf := if_f hf hc_3
        refine lv_aload_n X.hx X.hb dX8_placeInWords_8 rfl (lv_at hl 0 rfl) ?_
        refine gf_X8_15 X hP 0 rfl (v := .ref (uT 14)) rfl dX8_placeInWords_9 ?_
        refine lv_iload_n X.hx X.hb dX8_placeInWords_12 rfl (lv_at hl 2 rfl) ?_
        obtain ⟨hi_4, hf⟩ := ck_i hf
        refine r_lald X hP 2 (f := RSV) rfl hi_4 dX8_placeInWords_13 ?_
        refine lv_lload_n X.hx X.hb dX8_placeInWords_14 rfl (lv_at hl 1 rfl) ?_
        refine W.lcmp X.hx X.hb dX8_placeInWords_15 ?_
        refine lv_if_ne (tgt := 21) X.hx X.hb dX8_placeInWords_16 (by decide) (fun hc_5 => ?_) (fun hc_5 => ?_)
        · replace hf := if_f hf hc_5
          refine lv_iinc (v := (v3_2 + 1)) (lv' := [(3, .int (v3_2 + 1)), (0, .ref (uT 0)), (1, .long p1)]) X.hx X.hb dX8_placeInWords_21 hl (k := 2) rfl rfl (by decide) rfl (fun ls hl => ?_)
          refine lv_goto (tgt := 2) X.hx X.hb dX8_placeInWords_24 (by decide) ?_
          exact ih _ _ _ _ hf hP hD hS (lv_sub hl [1, 2, 0] rfl)
        · replace hf := if_t hf hc_5
          refine lv_iload_n X.hx X.hb dX8_placeInWords_19 rfl (lv_at hl 2 rfl) ?_
          cases hf
          subst hQ
          exact r_iret X hP hD hS dX8_placeInWords_20
  exact hlo_1 N _ _ _ _ hf hP hD hS (lv_sub hl [1, 2, 0] rfl)

def f_X8_next_0 (N : Nat) (sT : Nat → Nat → Int32) (jT : Nat → Int64) (K_1 : ((Nat → Int32)) → Option ((Nat → Int32) × (Nat → Int64))) : Nat → (Nat → Int32) → Option ((Nat → Int32) × (Nat → Int64))
  | 0, _ => none
  | k + 1, iT => (if (iT 2) ≤ (iT 4) then K_1 iT else ck (iT 4) 940 (jn (fun (z : Unit) => match z with | () => f_X8_next_0 N sT jT K_1 k (va_up iT 4 ((iT 4) + 1))) (fun K_29 => (if ((sT 0) (ix (iT 4))) = 32 then K_29 () else ck (iT 4) 940 ((if ((sT 0) (ix (iT 4))) = 10 then K_29 () else K_1 iT))))))
def f_X8_next (N : Nat) (sT : Nat → Nat → Int32) (iT : Nat → Int32) (jT : Nat → Int64) : Option ((Nat → Int32) × (Nat → Int64)) :=
  jn (fun (z : (Nat → Int32)) => match z with | iT_4 => nv (if (iT_4 2) < (iT_4 4) then (iT_4 2) else (iT_4 4)) (fun n_5 => (if (iT_4 4) < (iT_4 2) then bd (f_X8_readRun N sT (va_up (va_up (va_up iT_4 6 n_5) 7 (-1)) 8 (-1)) jT) (fun (iT_7, jT_8) => (if (iT_7 4) = (iT_7 6) then ck (iT_7 4) 940 (bd (f_X8_readSign N sT iT_7 jT_8 ((sT 0) (ix (iT_7 4)))) (fun iT_15 => some (iT_15, jT_8))) else (if (iT_7 5) = 1 then bd (f_X8_placeInWords N sT iT_7 jT_8 (jT_8 10)) (fun r_12 => some ((va_up iT_7 7 r_12), jT_8)) else some (iT_7, jT_8)))) else some ((va_up (va_up (va_up (va_up iT_4 6 n_5) 7 (-1)) 8 (-1)) 5 0), jT)))) (fun K_1 => f_X8_next_0 N sT jT K_1 N iT)
set_option maxHeartbeats 4000000 in
set_option maxRecDepth 100000 in
theorem c_X8_next (l : Launch) (G : GT) (N : Nat) (uT : Nat → Nat) (sT : Nat → Nat → Int32) (iT : Nat → Int32) (jT : Nat → Int64) {iT' : Nat → Int32} {jT' : Nat → Int64} (hf : f_X8_next N sT iT jT = some (iT', jT')) : CV l G yX8_next cX8_next 1 2 [.ref (uT 0)] (gT G uT sT iT jT) (gT G uT sT iT' jT') := by
  refine CV.of (by decide) (Nat.le_of_ble_eq_true rfl) ?_
  intro p e s m args below meth c A X hA hP hD hS ls hl
  have hl : lv_has ls 1 [(0, .ref (uT 0))] := hl
  generalize hQ : MQ below (QV G A (gT G uT sT iT' jT')) args s 0 0 A = QQ
  unfold f_X8_next at hf
  obtain ⟨K_1, eK_3, hf⟩ := jn_i hf
  have hj_2 : ∀ (iT_4 : Nat → Int32) (H : Heap) (locs : List Loc) (ls : Array Slot), K_1 iT_4 = some (iT', jT') → va_P G.1 vwCl (gT G uT sT iT_4 jT) H → va_D A (gT G uT sT iT_4 jT) → va_S A s.heap H locs → lv_has ls 1 [(0, .ref (uT 0))] → W p l e (RM 2) s m args below meth c H locs 0 0 QQ (F0 m 52 ls []) := by
    intro iT_4 H locs ls hf hP hD hS hl
    rw [eK_3] at hf
    try dsimp only at hf
    refine lv_aload_n X.hx X.hb dX8_next_52 rfl (lv_at hl 0 rfl) ?_
    refine lv_aload_n X.hx X.hb dX8_next_53 rfl (lv_at hl 0 rfl) ?_
    refine gf_X8_51 X hP 0 rfl (v := .int (iT_4 4)) rfl dX8_next_54 ?_
    refine lv_aload_n X.hx X.hb dX8_next_57 rfl (lv_at hl 0 rfl) ?_
    refine gf_X8_44 X hP 0 rfl (v := .int (iT_4 2)) rfl dX8_next_58 ?_
    refine r_mmin X tw_590 hl.1 (Nat.le_of_ble_eq_true rfl) (Nat.le_of_ble_eq_true rfl) (Nat.zero_le _) (Nat.zero_le _) dX8_next_61 ?_
    obtain ⟨n_5, en_5, hf⟩ := nv_i hf
    refine r_nm en_5 ?_
    refine pf_X8_63 X hP hD hS 0 rfl rfl rfl (Nat.le_of_ble_eq_true rfl) (wo := (gT G uT sT (va_up iT_4 6 n_5) jT)) rfl dX8_next_64 (fun H locs hP hD hS => ?_)
    refine lv_aload_n X.hx X.hb dX8_next_67 rfl (lv_at hl 0 rfl) ?_
    refine lv_iconst (v := (-1)) X.hx X.hb dX8_next_68 (by decide) ?_
    refine pf_X8_66 X hP hD hS 0 rfl rfl rfl (Nat.le_of_ble_eq_true rfl) (wo := (gT G uT sT (va_up (va_up iT_4 6 n_5) 7 (-1)) jT)) rfl dX8_next_69 (fun H locs hP hD hS => ?_)
    refine lv_aload_n X.hx X.hb dX8_next_72 rfl (lv_at hl 0 rfl) ?_
    refine lv_iconst (v := (-1)) X.hx X.hb dX8_next_73 (by decide) ?_
    refine pf_X8_69 X hP hD hS 0 rfl rfl rfl (Nat.le_of_ble_eq_true rfl) (wo := (gT G uT sT (va_up (va_up (va_up iT_4 6 n_5) 7 (-1)) 8 (-1)) jT)) rfl dX8_next_74 (fun H locs hP hD hS => ?_)
    refine lv_aload_n X.hx X.hb dX8_next_77 rfl (lv_at hl 0 rfl) ?_
    refine gf_X8_51 X hP 0 rfl (v := .int (iT_4 4)) rfl dX8_next_78 ?_
    refine lv_aload_n X.hx X.hb dX8_next_81 rfl (lv_at hl 0 rfl) ?_
    refine gf_X8_44 X hP 0 rfl (v := .int (iT_4 2)) rfl dX8_next_82 ?_
    refine lv_icmp_lt (tgt := 94) X.hx X.hb dX8_next_85 (by decide) (fun hc_6 => ?_) (fun hc_6 => ?_)
    · replace hf := if_t hf hc_6
      refine lv_aload_n X.hx X.hb dX8_next_94 rfl (lv_at hl 0 rfl) ?_
      obtain ⟨⟨iT_7, jT_8⟩, hc_9, hf⟩ := bd_i hf
      refine r_wvv (As := []) (rest := []) X sm_X8_75 (c_X8_readRun l G N uT sT (va_up (va_up (va_up iT_4 6 n_5) 7 (-1)) 8 (-1)) jT hc_9) hP hD hS hA 0 rfl rfl rfl hl.1 (lv_room (Nat.le_of_ble_eq_true rfl)) ⟨Nat.le_of_ble_eq_true rfl, Nat.le_of_ble_eq_true rfl⟩ ⟨Nat.zero_le _, Nat.zero_le _⟩ dX8_next_95 (fun H locs hP hD hS => ?_)
      refine lv_aload_n X.hx X.hb dX8_next_98 rfl (lv_at hl 0 rfl) ?_
      refine gf_X8_51 X hP 0 rfl (v := .int (iT_7 4)) rfl dX8_next_99 ?_
      refine lv_aload_n X.hx X.hb dX8_next_102 rfl (lv_at hl 0 rfl) ?_
      refine gf_X8_63 X hP 0 rfl (v := .int (iT_7 6)) rfl dX8_next_103 ?_
      refine lv_icmp_ne (tgt := 125) X.hx X.hb dX8_next_106 (by decide) (fun hc_10 => ?_) (fun hc_10 => ?_)
      · replace hf := if_f hf hc_10
        refine lv_aload_n X.hx X.hb dX8_next_125 rfl (lv_at hl 0 rfl) ?_
        refine gf_X8_72 X hP 0 rfl (v := .int (iT_7 5)) rfl dX8_next_126 ?_
        refine lv_iconst (v := 1) X.hx X.hb dX8_next_129 (by decide) ?_
        refine lv_icmp_ne (tgt := 145) X.hx X.hb dX8_next_130 (by decide) (fun hc_11 => ?_) (fun hc_11 => ?_)
        · replace hf := if_f hf hc_11
          cases hf
          subst hQ
          exact r_vret X hP hD hS dX8_next_145
        · replace hf := if_t hf hc_11
          refine lv_aload_n X.hx X.hb dX8_next_133 rfl (lv_at hl 0 rfl) ?_
          refine lv_aload_n X.hx X.hb dX8_next_134 rfl (lv_at hl 0 rfl) ?_
          refine lv_aload_n X.hx X.hb dX8_next_135 rfl (lv_at hl 0 rfl) ?_
          refine gf_X8_82 X hP 0 rfl (v := .long (jT_8 10)) rfl dX8_next_136 ?_
          obtain ⟨r_12, hc_13, hf⟩ := bd_i hf
          refine r_wvi (As := [.long (jT_8 10)]) (rest := [.ref (uT 0)]) X sm_X8_86 (c_X8_placeInWords l G N uT sT iT_7 jT_8 (jT_8 10) hc_13) hP hD hS hA 0 rfl rfl rfl hl.1 (lv_room (Nat.le_of_ble_eq_true rfl)) ⟨Nat.le_of_ble_eq_true rfl, Nat.le_of_ble_eq_true rfl⟩ ⟨Nat.zero_le _, Nat.zero_le _⟩ dX8_next_139 (fun H locs hP hD hS => ?_)
          refine pf_X8_66 X hP hD hS 0 rfl rfl rfl (Nat.le_of_ble_eq_true rfl) (wo := (gT G uT sT (va_up iT_7 7 r_12) jT_8)) rfl dX8_next_142 (fun H locs hP hD hS => ?_)
          cases hf
          subst hQ
          exact r_vret X hP hD hS dX8_next_145
      · replace hf := if_t hf hc_10
        refine lv_aload_n X.hx X.hb dX8_next_109 rfl (lv_at hl 0 rfl) ?_
        refine lv_aload_n X.hx X.hb dX8_next_110 rfl (lv_at hl 0 rfl) ?_
        refine gf_X8_11 X hP 0 rfl (v := .ref (uT 1)) rfl dX8_next_111 ?_
        refine lv_aload_n X.hx X.hb dX8_next_114 rfl (lv_at hl 0 rfl) ?_
        refine gf_X8_51 X hP 0 rfl (v := .int (iT_7 4)) rfl dX8_next_115 ?_
        obtain ⟨hi_14, hf⟩ := ck_i hf
        refine r_iald X hP 1 (f := (sT 0)) rfl hi_14 dX8_next_118 ?_
        obtain ⟨iT_15, hc_16, hf⟩ := bd_i hf
        refine r_wvv (As := [.int ((sT 0) (ix (iT_7 4)))]) (rest := []) X sm_X8_78 (c_X8_readSign l G N uT sT iT_7 jT_8 ((sT 0) (ix (iT_7 4))) hc_16) hP hD hS hA 0 rfl rfl rfl hl.1 (lv_room (Nat.le_of_ble_eq_true rfl)) ⟨Nat.le_of_ble_eq_true rfl, Nat.le_of_ble_eq_true rfl⟩ ⟨Nat.zero_le _, Nat.zero_le _⟩ dX8_next_119 (fun H locs hP hD hS => ?_)
        refine lv_goto (tgt := 145) X.hx X.hb dX8_next_122 (by decide) ?_
        cases hf
        subst hQ
        exact r_vret X hP hD hS dX8_next_145
    · replace hf := if_f hf hc_6
      refine lv_aload_n X.hx X.hb dX8_next_88 rfl (lv_at hl 0 rfl) ?_
      refine lv_iconst (v := 0) X.hx X.hb dX8_next_89 (by decide) ?_
      refine pf_X8_72 X hP hD hS 0 rfl rfl rfl (Nat.le_of_ble_eq_true rfl) (wo := (gT G uT sT (va_up (va_up (va_up (va_up iT_4 6 n_5) 7 (-1)) 8 (-1)) 5 0) jT)) rfl dX8_next_90 (fun H locs hP hD hS => ?_)
      cases hf
      subst hQ
      exact r_vret X hP hD hS dX8_next_93
  have hlo_17 : ∀ (k : Nat) (iT_18 : Nat → Int32) (H : Heap) (locs : List Loc) (ls : Array Slot), f_X8_next_0 N sT jT K_1 k iT_18 = some (iT', jT') → va_P G.1 vwCl (gT G uT sT iT_18 jT) H → va_D A (gT G uT sT iT_18 jT) → va_S A s.heap H locs → lv_has ls 1 [(0, .ref (uT 0))] → W p l e (RM 2) s m args below meth c H locs 0 0 QQ (F0 m 0 ls []) := by
    intro k
    induction k with
    | zero => intro iT_18 H locs ls hf; exact absurd hf (by intro q; cases q)
    | succ k ih =>
      intro iT_18 H locs ls hf hP hD hS hl
      unfold f_X8_next_0 at hf
      refine lv_aload_n X.hx X.hb dX8_next_0 rfl (lv_at hl 0 rfl) ?_
      refine gf_X8_51 X hP 0 rfl (v := .int (iT_18 4)) rfl dX8_next_1 ?_
      refine lv_aload_n X.hx X.hb dX8_next_4 rfl (lv_at hl 0 rfl) ?_
      refine gf_X8_44 X hP 0 rfl (v := .int (iT_18 2)) rfl dX8_next_5 ?_
      refine lv_icmp_ge (tgt := 52) X.hx X.hb dX8_next_8 (by decide) (fun hc_19 => ?_) (fun hc_19 => ?_)
      · replace hf := if_t hf hc_19
        exact hj_2 _ _ _ _ hf hP hD hS (lv_sub hl [0] rfl)
      · replace hf := if_f hf hc_19
        refine lv_aload_n X.hx X.hb dX8_next_11 rfl (lv_at hl 0 rfl) ?_
        refine gf_X8_11 X hP 0 rfl (v := .ref (uT 1)) rfl dX8_next_12 ?_
        refine lv_aload_n X.hx X.hb dX8_next_15 rfl (lv_at hl 0 rfl) ?_
        refine gf_X8_51 X hP 0 rfl (v := .int (iT_18 4)) rfl dX8_next_16 ?_
        obtain ⟨hi_20, hf⟩ := ck_i hf
        refine r_iald X hP 1 (f := (sT 0)) rfl hi_20 dX8_next_19 ?_
        refine lv_bipush (v := 32) X.hx X.hb dX8_next_20 (by decide) ?_
        obtain ⟨K_21, eK_23, hf⟩ := jn_i hf
        have hj_22 : ∀ (H : Heap) (locs : List Loc) (ls : Array Slot), K_21 () = some (iT', jT') → va_P G.1 vwCl (gT G uT sT iT_18 jT) H → va_D A (gT G uT sT iT_18 jT) → va_S A s.heap H locs → lv_has ls 1 [(0, .ref (uT 0))] → W p l e (RM 2) s m args below meth c H locs 0 0 QQ (F0 m 39 ls []) := by
          intro  H locs ls hf hP hD hS hl
          rw [eK_23] at hf
          try dsimp only at hf
          refine lv_aload_n X.hx X.hb dX8_next_39 rfl (lv_at hl 0 rfl) ?_
          refine lv_dup X.hx X.hb dX8_next_40 rfl ?_
          refine gf_X8_51 X hP 0 rfl (v := .int (iT_18 4)) rfl dX8_next_41 ?_
          refine lv_iconst (v := 1) X.hx X.hb dX8_next_44 (by decide) ?_
          refine lv_iadd X.hx X.hb dX8_next_45 ?_
          refine pf_X8_51 X hP hD hS 0 rfl rfl rfl (Nat.le_of_ble_eq_true rfl) (wo := (gT G uT sT (va_up iT_18 4 ((iT_18 4) + 1)) jT)) rfl dX8_next_46 (fun H locs hP hD hS => ?_)
          refine lv_goto (tgt := 0) X.hx X.hb dX8_next_49 (by decide) ?_
          exact ih _ _ _ _ hf hP hD hS (lv_sub hl [0] rfl)
        refine lv_icmp_eq (tgt := 39) X.hx X.hb dX8_next_22 (by decide) (fun hc_24 => ?_) (fun hc_24 => ?_)
        · replace hf := if_t hf hc_24
          exact hj_22 _ _ _ hf hP hD hS (lv_sub hl [0] rfl)
        · replace hf := if_f hf hc_24
          refine lv_aload_n X.hx X.hb dX8_next_25 rfl (lv_at hl 0 rfl) ?_
          refine gf_X8_11 X hP 0 rfl (v := .ref (uT 1)) rfl dX8_next_26 ?_
          refine lv_aload_n X.hx X.hb dX8_next_29 rfl (lv_at hl 0 rfl) ?_
          refine gf_X8_51 X hP 0 rfl (v := .int (iT_18 4)) rfl dX8_next_30 ?_
          obtain ⟨hi_25, hf⟩ := ck_i hf
          refine r_iald X hP 1 (f := (sT 0)) rfl hi_25 dX8_next_33 ?_
          refine lv_bipush (v := 10) X.hx X.hb dX8_next_34 (by decide) ?_
          refine lv_icmp_ne (tgt := 52) X.hx X.hb dX8_next_36 (by decide) (fun hc_26 => ?_) (fun hc_26 => ?_)
          · replace hf := if_f hf hc_26
            exact hj_2 _ _ _ _ hf hP hD hS (lv_sub hl [0] rfl)
          · replace hf := if_t hf hc_26
            exact hj_22 _ _ _ hf hP hD hS (lv_sub hl [0] rfl)
  exact hlo_17 N _ _ _ _ hf hP hD hS (lv_sub hl [0] rfl)

def f_X8_open (N : Nat) (sT : Nat → Nat → Int32) (iT : Nat → Int32) (jT : Nat → Int64) (p1 : Int32) : Option ((Nat → Int32) × (Nat → Int64)) :=
  nv (if p1 < (iT 1) then p1 else (iT 1)) (fun n_1 => jn (fun (z : (Int32)) => match z with | y_5 => zb y_5 (bd (f_X8_next N sT (va_up (va_up (va_up (va_up (va_up iT 2 n_1) 3 y_5) 4 0) 11 0) 12 0) jT) (fun (iT_7, jT_8) => some (iT_7, jT_8)))) (fun K_2 => (if (iT 1) ≤ p1 then K_2 0 else K_2 1)))
set_option maxHeartbeats 4000000 in
set_option maxRecDepth 100000 in
theorem c_X8_open (l : Launch) (G : GT) (N : Nat) (uT : Nat → Nat) (sT : Nat → Nat → Int32) (iT : Nat → Int32) (jT : Nat → Int64) (p1 : Int32) {iT' : Nat → Int32} {jT' : Nat → Int64} (hf : f_X8_open N sT iT jT p1 = some (iT', jT')) : CV l G yX8_open cX8_open 2 3 [.ref (uT 0), .int p1] (gT G uT sT iT jT) (gT G uT sT iT' jT') := by
  refine CV.of (by decide) (Nat.le_of_ble_eq_true rfl) ?_
  intro p e s m args below meth c A X hA hP hD hS ls hl
  have hl : lv_has ls 2 [(0, .ref (uT 0)), (1, .int p1)] := hl
  generalize hQ : MQ below (QV G A (gT G uT sT iT' jT')) args s 0 0 A = QQ
  unfold f_X8_open at hf
  refine lv_aload_n X.hx X.hb dX8_open_0 rfl (lv_at hl 0 rfl) ?_
  refine lv_aload_n X.hx X.hb dX8_open_1 rfl (lv_at hl 0 rfl) ?_
  refine gf_X8_35 X hP 0 rfl (v := .int (iT 1)) rfl dX8_open_2 ?_
  refine lv_iload_n X.hx X.hb dX8_open_5 rfl (lv_at hl 1 rfl) ?_
  refine r_mmin X tw_590 hl.1 (Nat.le_of_ble_eq_true rfl) (Nat.le_of_ble_eq_true rfl) (Nat.zero_le _) (Nat.zero_le _) dX8_open_6 ?_
  obtain ⟨n_1, en_1, hf⟩ := nv_i hf
  refine r_nm en_1 ?_
  refine pf_X8_44 X hP hD hS 0 rfl rfl rfl (Nat.le_of_ble_eq_true rfl) (wo := (gT G uT sT (va_up iT 2 n_1) jT)) rfl dX8_open_9 (fun H locs hP hD hS => ?_)
  refine lv_aload_n X.hx X.hb dX8_open_12 rfl (lv_at hl 0 rfl) ?_
  refine lv_aload_n X.hx X.hb dX8_open_13 rfl (lv_at hl 0 rfl) ?_
  refine gf_X8_35 X hP 0 rfl (v := .int (iT 1)) rfl dX8_open_14 ?_
  refine lv_iload_n X.hx X.hb dX8_open_17 rfl (lv_at hl 1 rfl) ?_
  obtain ⟨K_2, eK_4, hf⟩ := jn_i hf
  have hj_3 : ∀ (y_5 : Int32) (H : Heap) (locs : List Loc) (ls : Array Slot), K_2 y_5 = some (iT', jT') → va_P G.1 vwCl (gT G uT sT (va_up iT 2 n_1) jT) H → va_D A (gT G uT sT (va_up iT 2 n_1) jT) → va_S A s.heap H locs → lv_has ls 2 [(0, .ref (uT 0))] → W p l e (RM 3) s m args below meth c H locs 0 0 QQ (F0 m 26 ls [.int y_5, .ref (uT 0)]) := by
    intro y_5 H locs ls hf hP hD hS hl
    rw [eK_4] at hf
    try dsimp only at hf
    obtain ⟨hb_6, hf⟩ := zb_f hf
    refine pf_X8_47 X hP hD hS 0 rfl hb_6.1 hb_6.2 (Nat.le_of_ble_eq_true rfl) (wo := (gT G uT sT (va_up (va_up iT 2 n_1) 3 y_5) jT)) rfl dX8_open_26 (fun H locs hP hD hS => ?_)
    refine lv_aload_n X.hx X.hb dX8_open_29 rfl (lv_at hl 0 rfl) ?_
    refine lv_iconst (v := 0) X.hx X.hb dX8_open_30 (by decide) ?_
    refine pf_X8_51 X hP hD hS 0 rfl rfl rfl (Nat.le_of_ble_eq_true rfl) (wo := (gT G uT sT (va_up (va_up (va_up iT 2 n_1) 3 y_5) 4 0) jT)) rfl dX8_open_31 (fun H locs hP hD hS => ?_)
    refine lv_aload_n X.hx X.hb dX8_open_34 rfl (lv_at hl 0 rfl) ?_
    refine lv_iconst (v := 0) X.hx X.hb dX8_open_35 (by decide) ?_
    refine pf_X8_54 X hP hD hS 0 rfl rfl rfl (Nat.le_of_ble_eq_true rfl) (wo := (gT G uT sT (va_up (va_up (va_up (va_up iT 2 n_1) 3 y_5) 4 0) 11 0) jT)) rfl dX8_open_36 (fun H locs hP hD hS => ?_)
    refine lv_aload_n X.hx X.hb dX8_open_39 rfl (lv_at hl 0 rfl) ?_
    refine lv_iconst (v := 0) X.hx X.hb dX8_open_40 (by decide) ?_
    refine pf_X8_57 X hP hD hS 0 rfl rfl rfl (Nat.le_of_ble_eq_true rfl) (wo := (gT G uT sT (va_up (va_up (va_up (va_up (va_up iT 2 n_1) 3 y_5) 4 0) 11 0) 12 0) jT)) rfl dX8_open_41 (fun H locs hP hD hS => ?_)
    refine lv_aload_n X.hx X.hb dX8_open_44 rfl (lv_at hl 0 rfl) ?_
    obtain ⟨⟨iT_7, jT_8⟩, hc_9, hf⟩ := bd_i hf
    refine r_wvv (As := []) (rest := []) X sm_X8_60 (c_X8_next l G N uT sT (va_up (va_up (va_up (va_up (va_up iT 2 n_1) 3 y_5) 4 0) 11 0) 12 0) jT hc_9) hP hD hS hA 0 rfl rfl rfl hl.1 (lv_room (Nat.le_of_ble_eq_true rfl)) ⟨Nat.le_of_ble_eq_true rfl, Nat.le_of_ble_eq_true rfl⟩ ⟨Nat.zero_le _, Nat.zero_le _⟩ dX8_open_45 (fun H locs hP hD hS => ?_)
    cases hf
    subst hQ
    exact r_vret X hP hD hS dX8_open_48
  refine lv_icmp_le (tgt := 25) X.hx X.hb dX8_open_18 (by decide) (fun hc_10 => ?_) (fun hc_10 => ?_)
  · replace hf := if_t hf hc_10
    refine lv_iconst (v := 0) X.hx X.hb dX8_open_25 (by decide) ?_
    exact hj_3 _ _ _ _ hf hP hD hS (lv_sub hl [0] rfl)
  · replace hf := if_f hf hc_10
    refine lv_iconst (v := 1) X.hx X.hb dX8_open_21 (by decide) ?_
    refine lv_goto (tgt := 26) X.hx X.hb dX8_open_22 (by decide) ?_
    exact hj_3 _ _ _ _ hf hP hD hS (lv_sub hl [0] rfl)

def f_X8_refuse (N : Nat) (sT : Nat → Nat → Int32) (iT : Nat → Int32) (jT : Nat → Int64) (p1 : Int32) : Option (Int32 × (Nat → Int32)) :=
  some (0, (va_up (va_up iT 11 p1) 12 (iT 6)))
set_option maxHeartbeats 4000000 in
set_option maxRecDepth 100000 in
theorem c_X8_refuse (l : Launch) (G : GT) (N : Nat) (uT : Nat → Nat) (sT : Nat → Nat → Int32) (iT : Nat → Int32) (jT : Nat → Int64) (p1 : Int32) {r : Int32} {iT' : Nat → Int32} (hf : f_X8_refuse N sT iT jT p1 = some (r, iT')) : CI l G yX8_refuse cX8_refuse 2 .boolean 1 [.ref (uT 0), .int p1] (gT G uT sT iT jT) r (gT G uT sT iT' jT) := by
  refine CI.of (by decide) (Nat.le_of_ble_eq_true rfl) ?_
  intro p e s m args below meth c A X hA hP hD hS ls hl
  have hl : lv_has ls 2 [(0, .ref (uT 0)), (1, .int p1)] := hl
  generalize hQ : MQ below (QI G A r (gT G uT sT iT' jT)) args s 0 0 A = QQ
  unfold f_X8_refuse at hf
  refine lv_aload_n X.hx X.hb dX8_refuse_0 rfl (lv_at hl 0 rfl) ?_
  refine lv_iload_n X.hx X.hb dX8_refuse_1 rfl (lv_at hl 1 rfl) ?_
  refine pf_X8_54 X hP hD hS 0 rfl rfl rfl (Nat.le_of_ble_eq_true rfl) (wo := (gT G uT sT (va_up iT 11 p1) jT)) rfl dX8_refuse_2 (fun H locs hP hD hS => ?_)
  refine lv_aload_n X.hx X.hb dX8_refuse_5 rfl (lv_at hl 0 rfl) ?_
  refine lv_aload_n X.hx X.hb dX8_refuse_6 rfl (lv_at hl 0 rfl) ?_
  refine gf_X8_63 X hP 0 rfl (v := .int (iT 6)) rfl dX8_refuse_7 ?_
  refine pf_X8_57 X hP hD hS 0 rfl rfl rfl (Nat.le_of_ble_eq_true rfl) (wo := (gT G uT sT (va_up (va_up iT 11 p1) 12 (iT 6)) jT)) rfl dX8_refuse_10 (fun H locs hP hD hS => ?_)
  refine lv_iconst (v := 0) X.hx X.hb dX8_refuse_13 (by decide) ?_
  cases hf
  subst hQ
  exact r_zret X hP hD hS (by decide) dX8_refuse_14

