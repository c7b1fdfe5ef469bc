def f_X5_draw_31 (N : Nat) (iM : Nat → Int32) (sM : Nat → Nat → Int32) (iC : Nat → Int32) (tC : Nat → Nat → Int64) (sC : Nat → Nat → Int32) (v1 : Int32) (v4 : Int32) (K_10 : ((Nat → Nat → Int32) × (Nat → Int32)) → Option ((Nat → Nat → Int32) × (Nat → Int32))) : Nat → (Nat → Nat → Int32) → (Nat → Int32) → (Int32) → Option ((Nat → Nat → Int32) × (Nat → Int32))
  | 0, _, _, _ => none
  | k + 1, sP, iP, v5 => (if (iC 0) ≤ v5 then K_10 (sP, iP) else bd (f_X10_has N v4 v5) (fun r_62 => jn (fun (z : (Nat → Nat → Int32) × (Nat → Int32)) => match z with | (sP_67, iP_68) => f_X5_draw_31 N iM sM iC tC sC v1 v4 K_10 k sP_67 iP_68 (v5 + 1)) (fun K_64 => (if r_62 = 0 then K_64 (sP, iP) else bd (f_X5_add N sP iP 32) (fun (sP_70, iP_71) => ck v5 12 (bd (f_X5_addName N sP_70 iP_71 ((tC 2) (ix v5))) (fun (sP_74, iP_75) => K_64 (sP_74, iP_75))))))))
def f_X5_draw (N : Nat) (sP : Nat → Nat → Int32) (iP : Nat → Int32) (iM : Nat → Int32) (sM : Nat → Nat → Int32) (iC : Nat → Int32) (tC : Nat → Nat → Int64) (sC : Nat → Nat → Int32) (p1 : Int32) : Option ((Nat → Nat → Int32) × (Nat → Int32)) :=
  ck p1 12 (bd (f_X5_addName N sP (va_up iP 1 0) ((tC 2) (ix p1))) (fun (sP_2, iP_3) => bd (f_X5_addText N sP_2 iP_3 1) (fun (sP_5, iP_6) => bd (f_X4_known N iM sM iC tC sC p1) (fun r_8 => jn (fun (z : (Nat → Nat → Int32) × (Nat → Int32)) => match z with | (sP_13, iP_14) => jn (fun (z : (Nat → Nat → Int32) × (Nat → Int32)) => match z with | (sP_18, iP_19) => bd (f_X10_has N (iM 3) p1) (fun r_20 => jn (fun (z : (Nat → Nat → Int32) × (Nat → Int32)) => match z with | (sP_25, iP_26) => bd (f_X10_has N (iM 2) p1) (fun r_27 => (if r_27 = 0 then some (sP_25, iP_26) else bd (f_X5_addText N sP_25 iP_26 4) (fun (sP_30, iP_31) => some (sP_30, iP_31))))) (fun K_22 => (if r_20 = 0 then K_22 (sP_18, iP_19) else bd (f_X5_addText N sP_18 iP_19 3) (fun (sP_34, iP_35) => K_22 (sP_34, iP_35)))))) (fun K_15 => (if r_8 = 0 then bd (f_X5_addText N sP_13 iP_14 2) (fun (sP_38, iP_39) => K_15 (sP_38, iP_39)) else K_15 (sP_13, iP_14)))) (fun K_10 => f_X5_draw_31 N iM sM iC tC sC p1 r_8 K_10 N sP_5 iP_6 0)))))
set_option maxHeartbeats 4000000 in
set_option maxRecDepth 100000 in
theorem c_X5_draw (l : Launch) (G : GT) (N : Nat) (uP uM uC : Nat → Nat) (sP : Nat → Nat → Int32) (iP : Nat → Int32) (iM : Nat → Int32) (sM : Nat → Nat → Int32) (iC : Nat → Int32) (tC : Nat → Nat → Int64) (sC : Nat → Nat → Int32) (p1 : Int32) {sP' : Nat → Nat → Int32} {iP' : Nat → Int32} (hf : f_X5_draw N sP iP iM sM iC tC sC p1 = some (sP', iP')) : CV l G yX5_draw cX5_draw 6 6 [.ref (uP 0), .int p1, .ref (uC 0), .ref (uM 0)] (gP G uP sP iP ++ gM G uM (uC 0) iM sM ++ gC G uC iC tC sC) (gP G uP sP' iP' ++ gM G uM (uC 0) iM sM ++ gC G uC iC tC sC) := by
  refine CV.of (by decide) (Nat.le_of_ble_eq_true rfl) ?_
  intro p e s m args below meth c A X hA hP hD hS ls hl
  have hl : lv_has ls 6 [(0, .ref (uP 0)), (1, .int p1), (2, .ref (uC 0)), (3, .ref (uM 0))] := hl
  generalize hQ : MQ below (QV G A (gP G uP sP' iP' ++ gM G uM (uC 0) iM sM ++ gC G uC iC tC sC)) args s 0 0 A = QQ
  unfold f_X5_draw at hf
  refine lv_aload_n X.hx X.hb dX5_draw_0 rfl (lv_at hl 0 rfl) ?_
  refine lv_iconst (v := 0) X.hx X.hb dX5_draw_1 (by decide) ?_
  refine pf_X5_15 X hP hD hS 0 rfl rfl rfl (Nat.le_of_ble_eq_true rfl) (wo := (gP G uP sP (va_up iP 1 0) ++ gM G uM (uC 0) iM sM ++ gC G uC iC tC sC)) rfl dX5_draw_2 (fun H locs hP hD hS => ?_)
  refine lv_aload_n X.hx X.hb dX5_draw_5 rfl (lv_at hl 0 rfl) ?_
  refine lv_aload_n X.hx X.hb dX5_draw_6 rfl (lv_at hl 2 rfl) ?_
  refine gf_X5_19 X hP 9 rfl (v := .ref (uC 3)) rfl dX5_draw_7 ?_
  refine lv_iload_n X.hx X.hb dX5_draw_10 rfl (lv_at hl 1 rfl) ?_
  obtain ⟨hi_1, hf⟩ := ck_i hf
  refine r_lald X hP 10 (f := (tC 2)) rfl hi_1 dX5_draw_11 ?_
  obtain ⟨⟨sP_2, iP_3⟩, hc_4, hf⟩ := bd_i hf
  refine r_bvv ([] : va_W) (gM G uM (uC 0) iM sM ++ gC G uC iC tC sC) (As := [.long ((tC 2) (ix p1))]) (rest := []) X sm_X5_25 (c_X5_addName l G N uP sP (va_up iP 1 0) ((tC 2) (ix p1)) hc_4) hP hD hS hA (by simp only [List.append_assoc, List.append_nil, List.nil_append]) (wo := (gP G uP sP_2 iP_3 ++ gM G uM (uC 0) iM sM ++ gC G uC iC tC sC)) (by simp only [List.append_assoc, List.append_nil, List.nil_append]) 0 rfl rfl rfl hl.1 (lv_room (Nat.le_of_ble_eq_true rfl)) ⟨Nat.le_of_ble_eq_true rfl, Nat.le_of_ble_eq_true rfl⟩ ⟨Nat.zero_le _, Nat.zero_le _⟩ dX5_draw_12 (fun H locs hP hD hS => ?_)
  refine lv_aload_n X.hx X.hb dX5_draw_15 rfl (lv_at hl 0 rfl) ?_
  refine va_ldcS X.hx X.hb X.hown X.hSX.2.2.2.2.1 dX5_draw_16 ?_
  obtain ⟨⟨sP_5, iP_6⟩, hc_7, hf⟩ := bd_i hf
  refine r_bvv ([] : va_W) (gM G uM (uC 0) iM sM ++ gC G uC iC tC sC) (As := [.ref (G.2.2.1 1)]) (rest := []) X sm_X5_31 (c_X5_addText l G N uP sP_2 iP_3 1 (by decide) hc_7) hP hD hS hA (by simp only [List.append_assoc, List.append_nil, List.nil_append]) (wo := (gP G uP sP_5 iP_6 ++ gM G uM (uC 0) iM sM ++ gC G uC iC tC sC)) (by simp only [List.append_assoc, List.append_nil, List.nil_append]) 0 rfl rfl rfl hl.1 (lv_room (Nat.le_of_ble_eq_true rfl)) ⟨Nat.le_of_ble_eq_true rfl, Nat.le_of_ble_eq_true rfl⟩ ⟨Nat.zero_le _, Nat.zero_le _⟩ dX5_draw_18 (fun H locs hP hD hS => ?_)
  refine lv_aload_n X.hx X.hb dX5_draw_21 rfl (lv_at hl 3 rfl) ?_
  refine lv_iload_n X.hx X.hb dX5_draw_22 rfl (lv_at hl 1 rfl) ?_
  obtain ⟨r_8, hc_9, hf⟩ := bd_i hf
  refine r_bvi (gP G uP sP_5 iP_6) ([] : va_W) (As := [.int p1]) (rest := []) X sm_X5_35 (c_X4_known l G N uM uC iM sM iC tC sC p1 hc_9) hP hD hS hA (by simp only [List.append_assoc, List.append_nil, List.nil_append]) (wo := (gP G uP sP_5 iP_6 ++ gM G uM (uC 0) iM sM ++ gC G uC iC tC sC)) (by simp only [List.append_assoc, List.append_nil, List.nil_append]) 0 rfl rfl rfl hl.1 (lv_room (Nat.le_of_ble_eq_true rfl)) ⟨Nat.le_of_ble_eq_true rfl, Nat.le_of_ble_eq_true rfl⟩ ⟨Nat.zero_le _, Nat.zero_le _⟩ dX5_draw_23 (fun H locs hP hD hS => ?_)
  refine lv_istore (lv' := [(4, .int r_8), (0, .ref (uP 0)), (1, .int p1), (2, .ref (uC 0)), (3, .ref (uM 0))]) X.hx X.hb dX5_draw_26 hl (by decide) rfl (fun ls hl => ?_)
  refine lv_iconst (v := 0) X.hx X.hb dX5_draw_28 (by decide) ?_
  refine lv_istore (lv' := [(5, .int 0), (4, .int r_8), (0, .ref (uP 0)), (1, .int p1), (2, .ref (uC 0)), (3, .ref (uM 0))]) X.hx X.hb dX5_draw_29 hl (by decide) rfl (fun ls hl => ?_)
  obtain ⟨K_10, eK_12, hf⟩ := jn_i hf
  have hj_11 : ∀ (sP_13 : Nat → Nat → Int32) (iP_14 : Nat → Int32) (H : Heap) (locs : List Loc) (ls : Array Slot), K_10 (sP_13, iP_14) = some (sP', iP') → va_P G.1 vwCl (gP G uP sP_13 iP_14 ++ gM G uM (uC 0) iM sM ++ gC G uC iC tC sC) H → va_D A (gP G uP sP_13 iP_14 ++ gM G uM (uC 0) iM sM ++ gC G uC iC tC sC) → va_S A s.heap H locs → lv_has ls 6 [(0, .ref (uP 0)), (1, .int p1), (3, .ref (uM 0)), (4, .int r_8)] → W p l e (RM 6) s m args below meth c H locs 0 0 QQ (F0 m 73 ls []) := by
    intro sP_13 iP_14 H locs ls hf hP hD hS hl
    rw [eK_12] at hf
    try dsimp only at hf
    refine lv_iload X.hx X.hb dX5_draw_73 (lv_at hl 3 rfl) ?_
    obtain ⟨K_15, eK_17, hf⟩ := jn_i hf
    have hj_16 : ∀ (sP_18 : Nat → Nat → Int32) (iP_19 : Nat → Int32) (H : Heap) (locs : List Loc) (ls : Array Slot), K_15 (sP_18, iP_19) = some (sP', iP') → va_P G.1 vwCl (gP G uP sP_18 iP_19 ++ gM G uM (uC 0) iM sM ++ gC G uC iC tC sC) H → va_D A (gP G uP sP_18 iP_19 ++ gM G uM (uC 0) iM sM ++ gC G uC iC tC sC) → va_S A s.heap H locs → lv_has ls 6 [(0, .ref (uP 0)), (1, .int p1), (3, .ref (uM 0))] → W p l e (RM 6) s m args below meth c H locs 0 0 QQ (F0 m 84 ls []) := by
      intro sP_18 iP_19 H locs ls hf hP hD hS hl
      rw [eK_17] at hf
      try dsimp only at hf
      refine lv_aload_n X.hx X.hb dX5_draw_84 rfl (lv_at hl 2 rfl) ?_
      refine gf_X5_54 X hP 2 rfl (v := .int (iM 3)) rfl dX5_draw_85 ?_
      refine lv_iload_n X.hx X.hb dX5_draw_88 rfl (lv_at hl 1 rfl) ?_
      obtain ⟨r_20, hc_21, hf⟩ := bd_i hf
      refine r_cn0 (As := [.int (iM 3), .int p1]) (rest := []) X sm_X5_44 (c_X10_has l G N (iM 3) p1 hc_21) hP hD hS hA rfl hl.1 (lv_room (Nat.le_of_ble_eq_true rfl)) ⟨Nat.le_of_ble_eq_true rfl, Nat.le_of_ble_eq_true rfl⟩ ⟨Nat.zero_le _, Nat.zero_le _⟩ dX5_draw_89 (fun H locs hP hD hS => ?_)
      obtain ⟨K_22, eK_24, hf⟩ := jn_i hf
      have hj_23 : ∀ (sP_25 : Nat → Nat → Int32) (iP_26 : Nat → Int32) (H : Heap) (locs : List Loc) (ls : Array Slot), K_22 (sP_25, iP_26) = some (sP', iP') → va_P G.1 vwCl (gP G uP sP_25 iP_26 ++ gM G uM (uC 0) iM sM ++ gC G uC iC tC sC) H → va_D A (gP G uP sP_25 iP_26 ++ gM G uM (uC 0) iM sM ++ gC G uC iC tC sC) → va_S A s.heap H locs → lv_has ls 6 [(0, .ref (uP 0)), (1, .int p1), (3, .ref (uM 0))] → W p l e (RM 6) s m args below meth c H locs 0 0 QQ (F0 m 101 ls []) := by
        intro sP_25 iP_26 H locs ls hf hP hD hS hl
        rw [eK_24] at hf
        try dsimp only at hf
        refine lv_aload_n X.hx X.hb dX5_draw_101 rfl (lv_at hl 2 rfl) ?_
        refine gf_X5_59 X hP 2 rfl (v := .int (iM 2)) rfl dX5_draw_102 ?_
        refine lv_iload_n X.hx X.hb dX5_draw_105 rfl (lv_at hl 1 rfl) ?_
        obtain ⟨r_27, hc_28, hf⟩ := bd_i hf
        refine r_cn0 (As := [.int (iM 2), .int p1]) (rest := []) X sm_X5_44 (c_X10_has l G N (iM 2) p1 hc_28) hP hD hS hA rfl hl.1 (lv_room (Nat.le_of_ble_eq_true rfl)) ⟨Nat.le_of_ble_eq_true rfl, Nat.le_of_ble_eq_true rfl⟩ ⟨Nat.zero_le _, Nat.zero_le _⟩ dX5_draw_106 (fun H locs hP hD hS => ?_)
        refine lv_if_eq (tgt := 118) X.hx X.hb dX5_draw_109 (by decide) (fun hc_29 => ?_) (fun hc_29 => ?_)
        · replace hf := if_t hf hc_29
          cases hf
          subst hQ
          exact r_vret X hP hD hS dX5_draw_118
        · replace hf := if_f hf hc_29
          refine lv_aload_n X.hx X.hb dX5_draw_112 rfl (lv_at hl 0 rfl) ?_
          refine va_ldcS X.hx X.hb X.hown X.hSX.2.2.2.2.2.2.2 dX5_draw_113 ?_
          obtain ⟨⟨sP_30, iP_31⟩, hc_32, hf⟩ := bd_i hf
          refine r_bvv ([] : va_W) (gM G uM (uC 0) iM sM ++ gC G uC iC tC sC) (As := [.ref (G.2.2.1 4)]) (rest := []) X sm_X5_31 (c_X5_addText l G N uP sP_25 iP_26 4 (by decide) hc_32) hP hD hS hA (by simp only [List.append_assoc, List.append_nil, List.nil_append]) (wo := (gP G uP sP_30 iP_31 ++ gM G uM (uC 0) iM sM ++ gC G uC iC tC sC)) (by simp only [List.append_assoc, List.append_nil, List.nil_append]) 0 rfl rfl rfl hl.1 (lv_room (Nat.le_of_ble_eq_true rfl)) ⟨Nat.le_of_ble_eq_true rfl, Nat.le_of_ble_eq_true rfl⟩ ⟨Nat.zero_le _, Nat.zero_le _⟩ dX5_draw_115 (fun H locs hP hD hS => ?_)
          cases hf
          subst hQ
          exact r_vret X hP hD hS dX5_draw_118
      refine lv_if_eq (tgt := 101) X.hx X.hb dX5_draw_92 (by decide) (fun hc_33 => ?_) (fun hc_33 => ?_)
      · replace hf := if_t hf hc_33
        exact hj_23 _ _ _ _ _ hf hP hD hS (lv_sub hl [0, 1, 2] rfl)
      · replace hf := if_f hf hc_33
        refine lv_aload_n X.hx X.hb dX5_draw_95 rfl (lv_at hl 0 rfl) ?_
        refine va_ldcS X.hx X.hb X.hown X.hSX.2.2.2.2.2.2.1 dX5_draw_96 ?_
        obtain ⟨⟨sP_34, iP_35⟩, hc_36, hf⟩ := bd_i hf
        refine r_bvv ([] : va_W) (gM G uM (uC 0) iM sM ++ gC G uC iC tC sC) (As := [.ref (G.2.2.1 3)]) (rest := []) X sm_X5_31 (c_X5_addText l G N uP sP_18 iP_19 3 (by decide) hc_36) hP hD hS hA (by simp only [List.append_assoc, List.append_nil, List.nil_append]) (wo := (gP G uP sP_34 iP_35 ++ gM G uM (uC 0) iM sM ++ gC G uC iC tC sC)) (by simp only [List.append_assoc, List.append_nil, List.nil_append]) 0 rfl rfl rfl hl.1 (lv_room (Nat.le_of_ble_eq_true rfl)) ⟨Nat.le_of_ble_eq_true rfl, Nat.le_of_ble_eq_true rfl⟩ ⟨Nat.zero_le _, Nat.zero_le _⟩ dX5_draw_98 (fun H locs hP hD hS => ?_)
        exact hj_23 _ _ _ _ _ hf hP hD hS (lv_sub hl [0, 1, 2] rfl)
    refine lv_if_ne (tgt := 84) X.hx X.hb dX5_draw_75 (by decide) (fun hc_37 => ?_) (fun hc_37 => ?_)
    · replace hf := if_f hf hc_37
      exact hj_16 _ _ _ _ _ hf hP hD hS (lv_sub hl [0, 1, 2] rfl)
    · replace hf := if_t hf hc_37
      refine lv_aload_n X.hx X.hb dX5_draw_78 rfl (lv_at hl 0 rfl) ?_
      refine va_ldcS X.hx X.hb X.hown X.hSX.2.2.2.2.2.1 dX5_draw_79 ?_
      obtain ⟨⟨sP_38, iP_39⟩, hc_40, hf⟩ := bd_i hf
      refine r_bvv ([] : va_W) (gM G uM (uC 0) iM sM ++ gC G uC iC tC sC) (As := [.ref (G.2.2.1 2)]) (rest := []) X sm_X5_31 (c_X5_addText l G N uP sP_13 iP_14 2 (by decide) hc_40) hP hD hS hA (by simp only [List.append_assoc, List.append_nil, List.nil_append]) (wo := (gP G uP sP_38 iP_39 ++ gM G uM (uC 0) iM sM ++ gC G uC iC tC sC)) (by simp only [List.append_assoc, List.append_nil, List.nil_append]) 0 rfl rfl rfl hl.1 (lv_room (Nat.le_of_ble_eq_true rfl)) ⟨Nat.le_of_ble_eq_true rfl, Nat.le_of_ble_eq_true rfl⟩ ⟨Nat.zero_le _, Nat.zero_le _⟩ dX5_draw_81 (fun H locs hP hD hS => ?_)
      exact hj_16 _ _ _ _ _ hf hP hD hS (lv_sub hl [0, 1, 2] rfl)
  have hlo_41 : ∀ (k : Nat) (sP_42 : Nat → Nat → Int32) (iP_43 : Nat → Int32) (v5_44 : Int32) (H : Heap) (locs : List Loc) (ls : Array Slot), f_X5_draw_31 N iM sM iC tC sC p1 r_8 K_10 k sP_42 iP_43 v5_44 = some (sP', iP') → va_P G.1 vwCl (gP G uP sP_42 iP_43 ++ gM G uM (uC 0) iM sM ++ gC G uC iC tC sC) H → va_D A (gP G uP sP_42 iP_43 ++ gM G uM (uC 0) iM sM ++ gC G uC iC tC sC) → va_S A s.heap H locs → lv_has ls 6 [(0, .ref (uP 0)), (1, .int p1), (2, .ref (uC 0)), (3, .ref (uM 0)), (4, .int r_8), (5, .int v5_44)] → W p l e (RM 6) s m args below meth c H locs 0 0 QQ (F0 m 31 ls []) := by
    intro k
    induction k with
    | zero => intro sP_42 iP_43 v5_44 H locs ls hf; exact absurd hf (by intro q; cases q)
    | succ k ih =>
      intro sP_42 iP_43 v5_44 H locs ls hf hP hD hS hl
      unfold f_X5_draw_31 at hf
      refine lv_iload X.hx X.hb dX5_draw_31 (lv_at hl 5 rfl) ?_
      refine lv_aload_n X.hx X.hb dX5_draw_33 rfl (lv_at hl 2 rfl) ?_
      refine gf_X5_41 X hP 9 rfl (v := .int (iC 0)) rfl dX5_draw_34 ?_
      refine lv_icmp_ge (tgt := 73) X.hx X.hb dX5_draw_37 (by decide) (fun hc_45 => ?_) (fun hc_45 => ?_)
      · replace hf := if_t hf hc_45
        exact hj_11 _ _ _ _ _ hf hP hD hS (lv_sub hl [0, 1, 3, 4] rfl)
      · replace hf := if_f hf hc_45
        refine lv_iload X.hx X.hb dX5_draw_40 (lv_at hl 4 rfl) ?_
        refine lv_iload X.hx X.hb dX5_draw_42 (lv_at hl 5 rfl) ?_
        obtain ⟨r_46, hc_47, hf⟩ := bd_i hf
        refine r_cn0 (As := [.int r_8, .int v5_44]) (rest := []) X sm_X5_44 (c_X10_has l G N r_8 v5_44 hc_47) hP hD hS hA rfl hl.1 (lv_room (Nat.le_of_ble_eq_true rfl)) ⟨Nat.le_of_ble_eq_true rfl, Nat.le_of_ble_eq_true rfl⟩ ⟨Nat.zero_le _, Nat.zero_le _⟩ dX5_draw_44 (fun H locs hP hD hS => ?_)
        obtain ⟨K_48, eK_50, hf⟩ := jn_i hf
        have hj_49 : ∀ (sP_51 : Nat → Nat → Int32) (iP_52 : Nat → Int32) (H : Heap) (locs : List Loc) (ls : Array Slot), K_48 (sP_51, iP_52) = some (sP', iP') → va_P G.1 vwCl (gP G uP sP_51 iP_52 ++ gM G uM (uC 0) iM sM ++ gC G uC iC tC sC) H → va_D A (gP G uP sP_51 iP_52 ++ gM G uM (uC 0) iM sM ++ gC G uC iC tC sC) → va_S A s.heap H locs → lv_has ls 6 [(0, .ref (uP 0)), (1, .int p1), (2, .ref (uC 0)), (3, .ref (uM 0)), (4, .int r_8), (5, .int v5_44)] → W p l e (RM 6) s m args below meth c H locs 0 0 QQ (F0 m 67 ls []) := by
          intro sP_51 iP_52 H locs ls hf hP hD hS hl
          rw [eK_50] at hf
          try dsimp only at hf
          refine lv_iinc (v := (v5_44 + 1)) (lv' := [(5, .int (v5_44 + 1)), (0, .ref (uP 0)), (1, .int p1), (2, .ref (uC 0)), (3, .ref (uM 0)), (4, .int r_8)]) X.hx X.hb dX5_draw_67 hl (k := 5) rfl rfl (by decide) rfl (fun ls hl => ?_)
          refine lv_goto (tgt := 31) X.hx X.hb dX5_draw_70 (by decide) ?_
          exact ih _ _ _ _ _ _ hf hP hD hS (lv_sub hl [1, 2, 3, 4, 5, 0] rfl)
        refine lv_if_eq (tgt := 67) X.hx X.hb dX5_draw_47 (by decide) (fun hc_53 => ?_) (fun hc_53 => ?_)
        · replace hf := if_t hf hc_53
          exact hj_49 _ _ _ _ _ hf hP hD hS (lv_sub hl [0, 1, 2, 3, 4, 5] rfl)
        · replace hf := if_f hf hc_53
          refine lv_aload_n X.hx X.hb dX5_draw_50 rfl (lv_at hl 0 rfl) ?_
          refine lv_bipush (v := 32) X.hx X.hb dX5_draw_51 (by decide) ?_
          obtain ⟨⟨sP_54, iP_55⟩, hc_56, hf⟩ := bd_i hf
          refine r_bvv ([] : va_W) (gM G uM (uC 0) iM sM ++ gC G uC iC tC sC) (As := [.int 32]) (rest := []) X sm_X5_48 (c_X5_add l G N uP sP_42 iP_43 32 hc_56) hP hD hS hA (by simp only [List.append_assoc, List.append_nil, List.nil_append]) (wo := (gP G uP sP_54 iP_55 ++ gM G uM (uC 0) iM sM ++ gC G uC iC tC sC)) (by simp only [List.append_assoc, List.append_nil, List.nil_append]) 0 rfl rfl rfl hl.1 (lv_room (Nat.le_of_ble_eq_true rfl)) ⟨Nat.le_of_ble_eq_true rfl, Nat.le_of_ble_eq_true rfl⟩ ⟨Nat.zero_le _, Nat.zero_le _⟩ dX5_draw_53 (fun H locs hP hD hS => ?_)
          refine lv_aload_n X.hx X.hb dX5_draw_56 rfl (lv_at hl 0 rfl) ?_
          refine lv_aload_n X.hx X.hb dX5_draw_57 rfl (lv_at hl 2 rfl) ?_
          refine gf_X5_19 X hP 9 rfl (v := .ref (uC 3)) rfl dX5_draw_58 ?_
          refine lv_iload X.hx X.hb dX5_draw_61 (lv_at hl 5 rfl) ?_
          obtain ⟨hi_57, hf⟩ := ck_i hf
          refine r_lald X hP 10 (f := (tC 2)) rfl hi_57 dX5_draw_63 ?_
          obtain ⟨⟨sP_58, iP_59⟩, hc_60, hf⟩ := bd_i hf
          refine r_bvv ([] : va_W) (gM G uM (uC 0) iM sM ++ gC G uC iC tC sC) (As := [.long ((tC 2) (ix v5_44))]) (rest := []) X sm_X5_25 (c_X5_addName l G N uP sP_54 iP_55 ((tC 2) (ix v5_44)) hc_60) hP hD hS hA (by simp only [List.append_assoc, List.append_nil, List.nil_append]) (wo := (gP G uP sP_58 iP_59 ++ gM G uM (uC 0) iM sM ++ gC G uC iC tC sC)) (by simp only [List.append_assoc, List.append_nil, List.nil_append]) 0 rfl rfl rfl hl.1 (lv_room (Nat.le_of_ble_eq_true rfl)) ⟨Nat.le_of_ble_eq_true rfl, Nat.le_of_ble_eq_true rfl⟩ ⟨Nat.zero_le _, Nat.zero_le _⟩ dX5_draw_64 (fun H locs hP hD hS => ?_)
          exact hj_49 _ _ _ _ _ hf hP hD hS (lv_sub hl [0, 1, 2, 3, 4, 5] rfl)
  exact hlo_41 N _ _ _ _ _ _ hf hP hD hS (lv_sub hl [2, 3, 4, 5, 1, 0] rfl)

def f_X0_readAct (N : Nat) (sB : Nat → Nat → Int32) (iB : Nat → Int32) (sT : Nat → Nat → Int32) (iT : Nat → Int32) (jT : Nat → Int64) (iC : Nat → Int32) (tC : Nat → Nat → Int64) (sC : Nat → Nat → Int32) : Option (Int32 × (Nat → Nat → Int32) × (Nat → Int32) × (Nat → Int64)) :=
  jn (fun (z : Unit) => match z with | () => ck (iB 6) 40 (nv (upd (sB 2) (ix (iB 6)) (iT 7)) (fun g_5 => bd (f_X8_next N sT iT jT) (fun (iT_6, jT_7) => (if (iT 7) = 7 then some (1, (va_up sB 2 g_5), iT_6, jT_7) else jn (fun (z : (Int32) × (Nat → Int32) × (Nat → Int64)) => match z with | (y_13, iT_14, jT_15) => ck (iB 6) 40 (nv (upd (sB 4) (ix (iB 6)) y_13) (fun g_17 => ck (iB 6) 40 ((if (g_17 (ix (iB 6))) = (-1) then some (0, (va_up (va_up sB 2 g_5) 4 g_17), iT_14, jT_15) else (if (iT 7) = 10 then some (1, (va_up (va_up sB 2 g_5) 4 g_17), iT_14, jT_15) else bd (f_X8_passPerson N sT iT_14 jT_15 iC tC sC) (fun (r_21, iT_22, jT_23) => ck (iB 6) 40 (nv (upd (sB 5) (ix (iB 6)) r_21) (fun g_26 => ck (iB 6) 40 ((if (g_26 (ix (iB 6))) = (-1) then some (0, (va_up (va_up (va_up sB 2 g_5) 4 g_17) 5 g_26), iT_22, jT_23) else some (1, (va_up (va_up (va_up sB 2 g_5) 4 g_17) 5 g_26), iT_22, jT_23)))))))))))) (fun K_10 => (if (iT 7) = 9 then bd (f_X8_passGood N sT iT_6 jT_7 iC tC sC) (fun (r_34, iT_35, jT_36) => K_10 (r_34, iT_35, jT_36)) else bd (f_X8_passPerson N sT iT_6 jT_7 iC tC sC) (fun (r_30, iT_31, jT_32) => K_10 (r_30, iT_31, jT_32))))))))) (fun K_1 => (if (iT 7) = 9 then K_1 () else (if (iT 7) = 10 then K_1 () else (if (iT 7) = 7 then K_1 () else (if (iT 7) = 11 then K_1 () else bd (f_X8_refuse N sT iT jT 1) (fun (r_42, iT_43) => zb r_42 (some (r_42, sB, iT_43, jT))))))))
set_option maxHeartbeats 4000000 in
set_option maxRecDepth 100000 in
theorem c_X0_readAct (l : Launch) (G : GT) (N : Nat) (uB uT uC : Nat → Nat) (sB : Nat → Nat → Int32) (iB : Nat → Int32) (sT : Nat → Nat → Int32) (iT : Nat → Int32) (jT : Nat → Int64) (iC : Nat → Int32) (tC : Nat → Nat → Int64) (sC : Nat → Nat → Int32) {r : Int32} {sB' : Nat → Nat → Int32} {iT' : Nat → Int32} {jT' : Nat → Int64} (hf : f_X0_readAct N sB iB sT iT jT iC tC sC = some (r, sB', iT', jT')) : CI l G yX0_readAct cX0_readAct 2 .boolean 4 [.ref (uB 0)] (gB G uB (uT 0) (uC 0) sB iB ++ gT G uT sT iT jT ++ gC G uC iC tC sC) r (gB G uB (uT 0) (uC 0) sB' iB ++ gT G uT sT iT' jT' ++ gC G uC iC tC sC) := by
  refine CI.of (by decide) (Nat.le_of_ble_eq_true rfl) ?_
  intro p e s m args below meth c A X hA hP hD hS ls hl
  have hl : lv_has ls 2 [(0, .ref (uB 0))] := hl
  generalize hQ : MQ below (QI G A r (gB G uB (uT 0) (uC 0) sB' iB ++ gT G uT sT iT' jT' ++ gC G uC iC tC sC)) args s 0 0 A = QQ
  unfold f_X0_readAct at hf
  refine lv_aload_n X.hx X.hb dX0_readAct_0 rfl (lv_at hl 0 rfl) ?_
  refine gf_X0_24 X hP 0 rfl (v := .ref (uT 0)) rfl dX0_readAct_1 ?_
  refine gf_X0_56 X hP 5 rfl (v := .int (iT 7)) rfl dX0_readAct_4 ?_
  refine lv_istore_n (lv' := [(1, .int (iT 7)), (0, .ref (uB 0))]) X.hx X.hb dX0_readAct_7 rfl hl (by decide) rfl (fun ls hl => ?_)
  refine lv_iload_n X.hx X.hb dX0_readAct_8 rfl (lv_at hl 0 rfl) ?_
  refine lv_bipush (v := 9) X.hx X.hb dX0_readAct_9 (by decide) ?_
  obtain ⟨K_1, eK_3, hf⟩ := jn_i hf
  have hj_2 : ∀ (H : Heap) (locs : List Loc) (ls : Array Slot), K_1 () = some (r, sB', iT', jT') → va_P G.1 vwCl (gB G uB (uT 0) (uC 0) sB iB ++ gT G uT sT iT jT ++ gC G uC iC tC sC) H → va_D A (gB G uB (uT 0) (uC 0) sB iB ++ gT G uT sT iT jT ++ gC G uC iC tC sC) → va_S A s.heap H locs → lv_has ls 2 [(0, .ref (uB 0)), (1, .int (iT 7))] → W p l e (RM 4) s m args below meth c H locs 0 0 QQ (F0 m 41 ls []) := by
    intro  H locs ls hf hP hD hS hl
    rw [eK_3] at hf
    try dsimp only at hf
    refine lv_aload_n X.hx X.hb dX0_readAct_41 rfl (lv_at hl 0 rfl) ?_
    refine gf_X0_11 X hP 0 rfl (v := .ref (uB 3)) rfl dX0_readAct_42 ?_
    refine lv_aload_n X.hx X.hb dX0_readAct_45 rfl (lv_at hl 0 rfl) ?_
    refine gf_X0_32 X hP 0 rfl (v := .int (iB 6)) rfl dX0_readAct_46 ?_
    refine lv_iload_n X.hx X.hb dX0_readAct_49 rfl (lv_at hl 1 rfl) ?_
    obtain ⟨hi_4, hf⟩ := ck_i hf
    obtain ⟨g_5, eg_5, hf⟩ := nv_i hf
    refine r_iast X hP hD hS 1 (f := (sB 2)) rfl hi_4 (wo := (gB G uB (uT 0) (uC 0) (va_up sB 2 g_5) iB ++ gT G uT sT iT jT ++ gC G uC iC tC sC)) (by subst eg_5; rfl) dX0_readAct_50 (fun H locs hP hD hS => ?_)
    refine lv_aload_n X.hx X.hb dX0_readAct_51 rfl (lv_at hl 0 rfl) ?_
    refine gf_X0_24 X hP 0 rfl (v := .ref (uT 0)) rfl dX0_readAct_52 ?_
    obtain ⟨⟨iT_6, jT_7⟩, hc_8, hf⟩ := bd_i hf
    refine r_bvv (gB G uB (uT 0) (uC 0) (va_up sB 2 g_5) iB) (gC G uC iC tC sC) (As := []) (rest := []) X sm_X0_65 (c_X8_next l G N uT sT iT jT hc_8) hP hD hS hA (by simp only [List.append_assoc, List.append_nil, List.nil_append]) (wo := (gB G uB (uT 0) (uC 0) (va_up sB 2 g_5) iB ++ gT G uT sT iT_6 jT_7 ++ gC G uC iC tC sC)) (by simp only [List.append_assoc, List.append_nil, List.nil_append]) 0 rfl rfl rfl hl.1 (lv_room (Nat.le_of_ble_eq_true rfl)) ⟨Nat.le_of_ble_eq_true rfl, Nat.le_of_ble_eq_true rfl⟩ ⟨Nat.zero_le _, Nat.zero_le _⟩ dX0_readAct_55 (fun H locs hP hD hS => ?_)
    refine lv_iload_n X.hx X.hb dX0_readAct_58 rfl (lv_at hl 1 rfl) ?_
    refine lv_bipush (v := 7) X.hx X.hb dX0_readAct_59 (by decide) ?_
    refine lv_icmp_ne (tgt := 66) X.hx X.hb dX0_readAct_61 (by decide) (fun hc_9 => ?_) (fun hc_9 => ?_)
    · replace hf := if_f hf hc_9
      refine lv_aload_n X.hx X.hb dX0_readAct_66 rfl (lv_at hl 0 rfl) ?_
      refine gf_X0_18 X hP 0 rfl (v := .ref (uB 5)) rfl dX0_readAct_67 ?_
      refine lv_aload_n X.hx X.hb dX0_readAct_70 rfl (lv_at hl 0 rfl) ?_
      refine gf_X0_32 X hP 0 rfl (v := .int (iB 6)) rfl dX0_readAct_71 ?_
      refine lv_iload_n X.hx X.hb dX0_readAct_74 rfl (lv_at hl 1 rfl) ?_
      refine lv_bipush (v := 9) X.hx X.hb dX0_readAct_75 (by decide) ?_
      obtain ⟨K_10, eK_12, hf⟩ := jn_i hf
      have hj_11 : ∀ (y_13 : Int32) (iT_14 : Nat → Int32) (jT_15 : Nat → Int64) (H : Heap) (locs : List Loc) (ls : Array Slot), K_10 (y_13, iT_14, jT_15) = some (r, sB', iT', jT') → va_P G.1 vwCl (gB G uB (uT 0) (uC 0) (va_up sB 2 g_5) iB ++ gT G uT sT iT_14 jT_15 ++ gC G uC iC tC sC) H → va_D A (gB G uB (uT 0) (uC 0) (va_up sB 2 g_5) iB ++ gT G uT sT iT_14 jT_15 ++ gC G uC iC tC sC) → va_S A s.heap H locs → lv_has ls 2 [(0, .ref (uB 0)), (1, .int (iT 7))] → W p l e (RM 4) s m args below meth c H locs 0 0 QQ (F0 m 105 ls [.int y_13, .int (iB 6), .ref (uB 5)]) := by
        intro y_13 iT_14 jT_15 H locs ls hf hP hD hS hl
        rw [eK_12] at hf
        try dsimp only at hf
        obtain ⟨hi_16, hf⟩ := ck_i hf
        obtain ⟨g_17, eg_17, hf⟩ := nv_i hf
        refine r_iast X hP hD hS 3 (f := (sB 4)) rfl hi_16 (wo := (gB G uB (uT 0) (uC 0) (va_up (va_up sB 2 g_5) 4 g_17) iB ++ gT G uT sT iT_14 jT_15 ++ gC G uC iC tC sC)) (by subst eg_17; rfl) dX0_readAct_105 (fun H locs hP hD hS => ?_)
        refine lv_aload_n X.hx X.hb dX0_readAct_106 rfl (lv_at hl 0 rfl) ?_
        refine gf_X0_18 X hP 0 rfl (v := .ref (uB 5)) rfl dX0_readAct_107 ?_
        refine lv_aload_n X.hx X.hb dX0_readAct_110 rfl (lv_at hl 0 rfl) ?_
        refine gf_X0_32 X hP 0 rfl (v := .int (iB 6)) rfl dX0_readAct_111 ?_
        obtain ⟨hi_18, hf⟩ := ck_i hf
        refine r_iald X hP 3 (f := g_17) rfl hi_18 dX0_readAct_114 ?_
        refine lv_iconst (v := (-1)) X.hx X.hb dX0_readAct_115 (by decide) ?_
        refine lv_icmp_ne (tgt := 121) X.hx X.hb dX0_readAct_116 (by decide) (fun hc_19 => ?_) (fun hc_19 => ?_)
        · replace hf := if_f hf hc_19
          refine lv_iload_n X.hx X.hb dX0_readAct_121 rfl (lv_at hl 1 rfl) ?_
          refine lv_bipush (v := 10) X.hx X.hb dX0_readAct_122 (by decide) ?_
          refine lv_icmp_ne (tgt := 129) X.hx X.hb dX0_readAct_124 (by decide) (fun hc_20 => ?_) (fun hc_20 => ?_)
          · replace hf := if_f hf hc_20
            refine lv_aload_n X.hx X.hb dX0_readAct_129 rfl (lv_at hl 0 rfl) ?_
            refine gf_X0_21 X hP 0 rfl (v := .ref (uB 6)) rfl dX0_readAct_130 ?_
            refine lv_aload_n X.hx X.hb dX0_readAct_133 rfl (lv_at hl 0 rfl) ?_
            refine gf_X0_32 X hP 0 rfl (v := .int (iB 6)) rfl dX0_readAct_134 ?_
            refine lv_aload_n X.hx X.hb dX0_readAct_137 rfl (lv_at hl 0 rfl) ?_
            refine gf_X0_24 X hP 0 rfl (v := .ref (uT 0)) rfl dX0_readAct_138 ?_
            refine lv_aload_n X.hx X.hb dX0_readAct_141 rfl (lv_at hl 0 rfl) ?_
            refine gf_X0_28 X hP 0 rfl (v := .ref (uC 0)) rfl dX0_readAct_142 ?_
            obtain ⟨⟨r_21, iT_22, jT_23⟩, hc_24, hf⟩ := bd_i hf
            refine r_bvi (gB G uB (uT 0) (uC 0) (va_up (va_up sB 2 g_5) 4 g_17) iB) ([] : va_W) (As := [.ref (uC 0)]) (rest := [.int (iB 6), .ref (uB 6)]) X sm_X0_78 (c_X8_passPerson l G N uT uC sT iT_14 jT_15 iC tC sC hc_24) hP hD hS hA (by simp only [List.append_assoc, List.append_nil, List.nil_append]) (wo := (gB G uB (uT 0) (uC 0) (va_up (va_up sB 2 g_5) 4 g_17) iB ++ gT G uT sT iT_22 jT_23 ++ gC G uC iC tC sC)) (by simp only [List.append_assoc, List.append_nil, List.nil_append]) 0 rfl rfl rfl hl.1 (lv_room (Nat.le_of_ble_eq_true rfl)) ⟨Nat.le_of_ble_eq_true rfl, Nat.le_of_ble_eq_true rfl⟩ ⟨Nat.zero_le _, Nat.zero_le _⟩ dX0_readAct_145 (fun H locs hP hD hS => ?_)
            obtain ⟨hi_25, hf⟩ := ck_i hf
            obtain ⟨g_26, eg_26, hf⟩ := nv_i hf
            refine r_iast X hP hD hS 4 (f := (sB 5)) rfl hi_25 (wo := (gB G uB (uT 0) (uC 0) (va_up (va_up (va_up sB 2 g_5) 4 g_17) 5 g_26) iB ++ gT G uT sT iT_22 jT_23 ++ gC G uC iC tC sC)) (by subst eg_26; rfl) dX0_readAct_148 (fun H locs hP hD hS => ?_)
            refine lv_aload_n X.hx X.hb dX0_readAct_149 rfl (lv_at hl 0 rfl) ?_
            refine gf_X0_21 X hP 0 rfl (v := .ref (uB 6)) rfl dX0_readAct_150 ?_
            refine lv_aload_n X.hx X.hb dX0_readAct_153 rfl (lv_at hl 0 rfl) ?_
            refine gf_X0_32 X hP 0 rfl (v := .int (iB 6)) rfl dX0_readAct_154 ?_
            obtain ⟨hi_27, hf⟩ := ck_i hf
            refine r_iald X hP 4 (f := g_26) rfl hi_27 dX0_readAct_157 ?_
            refine lv_iconst (v := (-1)) X.hx X.hb dX0_readAct_158 (by decide) ?_
            refine lv_icmp_eq (tgt := 166) X.hx X.hb dX0_readAct_159 (by decide) (fun hc_28 => ?_) (fun hc_28 => ?_)
            · replace hf := if_t hf hc_28
              refine lv_iconst (v := 0) X.hx X.hb dX0_readAct_166 (by decide) ?_
              cases hf
              subst hQ
              exact r_zret X hP hD hS (by decide) dX0_readAct_167
            · replace hf := if_f hf hc_28
              refine lv_iconst (v := 1) X.hx X.hb dX0_readAct_162 (by decide) ?_
              refine lv_goto (tgt := 167) X.hx X.hb dX0_readAct_163 (by decide) ?_
              cases hf
              subst hQ
              exact r_zret X hP hD hS (by decide) dX0_readAct_167
          · replace hf := if_t hf hc_20
            refine lv_iconst (v := 1) X.hx X.hb dX0_readAct_127 (by decide) ?_
            cases hf
            subst hQ
            exact r_zret X hP hD hS (by decide) dX0_readAct_128
        · replace hf := if_t hf hc_19
          refine lv_iconst (v := 0) X.hx X.hb dX0_readAct_119 (by decide) ?_
          cases hf
          subst hQ
          exact r_zret X hP hD hS (by decide) dX0_readAct_120
      refine lv_icmp_ne (tgt := 94) X.hx X.hb dX0_readAct_77 (by decide) (fun hc_29 => ?_) (fun hc_29 => ?_)
      · replace hf := if_f hf hc_29
        refine lv_aload_n X.hx X.hb dX0_readAct_94 rfl (lv_at hl 0 rfl) ?_
        refine gf_X0_24 X hP 0 rfl (v := .ref (uT 0)) rfl dX0_readAct_95 ?_
        refine lv_aload_n X.hx X.hb dX0_readAct_98 rfl (lv_at hl 0 rfl) ?_
        refine gf_X0_28 X hP 0 rfl (v := .ref (uC 0)) rfl dX0_readAct_99 ?_
        obtain ⟨⟨r_30, iT_31, jT_32⟩, hc_33, hf⟩ := bd_i hf
        refine r_bvi (gB G uB (uT 0) (uC 0) (va_up sB 2 g_5) iB) ([] : va_W) (As := [.ref (uC 0)]) (rest := [.int (iB 6), .ref (uB 5)]) X sm_X0_78 (c_X8_passPerson l G N uT uC sT iT_6 jT_7 iC tC sC hc_33) hP hD hS hA (by simp only [List.append_assoc, List.append_nil, List.nil_append]) (wo := (gB G uB (uT 0) (uC 0) (va_up sB 2 g_5) iB ++ gT G uT sT iT_31 jT_32 ++ gC G uC iC tC sC)) (by simp only [List.append_assoc, List.append_nil, List.nil_append]) 0 rfl rfl rfl hl.1 (lv_room (Nat.le_of_ble_eq_true rfl)) ⟨Nat.le_of_ble_eq_true rfl, Nat.le_of_ble_eq_true rfl⟩ ⟨Nat.zero_le _, Nat.zero_le _⟩ dX0_readAct_102 (fun H locs hP hD hS => ?_)
        exact hj_11 _ _ _ _ _ _ hf hP hD hS (lv_sub hl [0, 1] rfl)
      · replace hf := if_t hf hc_29
        refine lv_aload_n X.hx X.hb dX0_readAct_80 rfl (lv_at hl 0 rfl) ?_
        refine gf_X0_24 X hP 0 rfl (v := .ref (uT 0)) rfl dX0_readAct_81 ?_
        refine lv_aload_n X.hx X.hb dX0_readAct_84 rfl (lv_at hl 0 rfl) ?_
        refine gf_X0_28 X hP 0 rfl (v := .ref (uC 0)) rfl dX0_readAct_85 ?_
        obtain ⟨⟨r_34, iT_35, jT_36⟩, hc_37, hf⟩ := bd_i hf
        refine r_bvi (gB G uB (uT 0) (uC 0) (va_up sB 2 g_5) iB) ([] : va_W) (As := [.ref (uC 0)]) (rest := [.int (iB 6), .ref (uB 5)]) X sm_X0_75 (c_X8_passGood l G N uT uC sT iT_6 jT_7 iC tC sC hc_37) hP hD hS hA (by simp only [List.append_assoc, List.append_nil, List.nil_append]) (wo := (gB G uB (uT 0) (uC 0) (va_up sB 2 g_5) iB ++ gT G uT sT iT_35 jT_36 ++ gC G uC iC tC sC)) (by simp only [List.append_assoc, List.append_nil, List.nil_append]) 0 rfl rfl rfl hl.1 (lv_room (Nat.le_of_ble_eq_true rfl)) ⟨Nat.le_of_ble_eq_true rfl, Nat.le_of_ble_eq_true rfl⟩ ⟨Nat.zero_le _, Nat.zero_le _⟩ dX0_readAct_88 (fun H locs hP hD hS => ?_)
        refine lv_goto (tgt := 105) X.hx X.hb dX0_readAct_91 (by decide) ?_
        exact hj_11 _ _ _ _ _ _ hf hP hD hS (lv_sub hl [0, 1] rfl)
    · replace hf := if_t hf hc_9
      refine lv_iconst (v := 1) X.hx X.hb dX0_readAct_64 (by decide) ?_
      cases hf
      subst hQ
      exact r_zret X hP hD hS (by decide) dX0_readAct_65
  refine lv_icmp_eq (tgt := 41) X.hx X.hb dX0_readAct_11 (by decide) (fun hc_38 => ?_) (fun hc_38 => ?_)
  · replace hf := if_t hf hc_38
    exact hj_2 _ _ _ hf hP hD hS (lv_sub hl [1, 0] rfl)
  · replace hf := if_f hf hc_38
    refine lv_iload_n X.hx X.hb dX0_readAct_14 rfl (lv_at hl 0 rfl) ?_
    refine lv_bipush (v := 10) X.hx X.hb dX0_readAct_15 (by decide) ?_
    refine lv_icmp_eq (tgt := 41) X.hx X.hb dX0_readAct_17 (by decide) (fun hc_39 => ?_) (fun hc_39 => ?_)
    · replace hf := if_t hf hc_39
      exact hj_2 _ _ _ hf hP hD hS (lv_sub hl [1, 0] rfl)
    · replace hf := if_f hf hc_39
      refine lv_iload_n X.hx X.hb dX0_readAct_20 rfl (lv_at hl 0 rfl) ?_
      refine lv_bipush (v := 7) X.hx X.hb dX0_readAct_21 (by decide) ?_
      refine lv_icmp_eq (tgt := 41) X.hx X.hb dX0_readAct_23 (by decide) (fun hc_40 => ?_) (fun hc_40 => ?_)
      · replace hf := if_t hf hc_40
        exact hj_2 _ _ _ hf hP hD hS (lv_sub hl [1, 0] rfl)
      · replace hf := if_f hf hc_40
        refine lv_iload_n X.hx X.hb dX0_readAct_26 rfl (lv_at hl 0 rfl) ?_
        refine lv_bipush (v := 11) X.hx X.hb dX0_readAct_27 (by decide) ?_
        refine lv_icmp_eq (tgt := 41) X.hx X.hb dX0_readAct_29 (by decide) (fun hc_41 => ?_) (fun hc_41 => ?_)
        · replace hf := if_t hf hc_41
          exact hj_2 _ _ _ hf hP hD hS (lv_sub hl [1, 0] rfl)
        · replace hf := if_f hf hc_41
          refine lv_aload_n X.hx X.hb dX0_readAct_32 rfl (lv_at hl 1 rfl) ?_
          refine gf_X0_24 X hP 0 rfl (v := .ref (uT 0)) rfl dX0_readAct_33 ?_
          refine lv_iconst (v := 1) X.hx X.hb dX0_readAct_36 (by decide) ?_
          obtain ⟨⟨r_42, iT_43⟩, hc_44, hf⟩ := bd_i hf
          refine r_bvi (gB G uB (uT 0) (uC 0) sB iB) (gC G uC iC tC sC) (As := [.int 1]) (rest := []) X sm_X0_62 (c_X8_refuse l G N uT sT iT jT 1 hc_44) hP hD hS hA (by simp only [List.append_assoc, List.append_nil, List.nil_append]) (wo := (gB G uB (uT 0) (uC 0) sB iB ++ gT G uT sT iT_43 jT ++ gC G uC iC tC sC)) (by simp only [List.append_assoc, List.append_nil, List.nil_append]) 0 rfl rfl rfl hl.1 (lv_room (Nat.le_of_ble_eq_true rfl)) ⟨Nat.le_of_ble_eq_true rfl, Nat.le_of_ble_eq_true rfl⟩ ⟨Nat.zero_le _, Nat.zero_le _⟩ dX0_readAct_37 (fun H locs hP hD hS => ?_)
          obtain ⟨hb_45, hf⟩ := zb_i hf
          cases hf
          subst hQ
          exact r_zret X hP hD hS hb_45 dX0_readAct_40

def f_X0_readLine (N : Nat) (sB : Nat → Nat → Int32) (iB : Nat → Int32) (sT : Nat → Nat → Int32) (iT : Nat → Int32) (jT : Nat → Int64) (iC : Nat → Int32) (tC : Nat → Nat → Int64) (sC : Nat → Nat → Int32) : Option (Int32 × (Nat → Nat → Int32) × (Nat → Int32) × (Nat → Int64)) :=
  jn (fun (z : (Int32)) => match z with | y_4 => jn (fun (z : (Int32) × (Nat → Int32)) => match z with | (y_8, iT_9) => jn (fun (z : Unit) => match z with | () => (if (iB 6) < 40 then bd (f_X8_next N sT iT_9 jT) (fun (iT_14, jT_15) => (if y_4 = 0 then ck (iB 6) 40 (nv (upd (sB 3) (ix (iB 6)) y_8) (fun g_19 => bd (f_X0_readAct N (va_up sB 3 g_19) iB sT iT_14 jT_15 iC tC sC) (fun (r_20, sB_21, iT_22, jT_23) => zb r_20 (some (r_20, sB_21, iT_22, jT_23))))) else ck (iB 6) 40 (nv (upd (sB 2) (ix (iB 6)) 12) (fun g_27 => bd (f_X8_passNumber N sT iT_14 jT_15 1 60) (fun (r_28, iT_29, jT_30) => ck (iB 6) 40 (nv (upd (sB 3) (ix (iB 6)) r_28) (fun g_33 => ck (iB 6) 40 ((if (g_33 (ix (iB 6))) = (-1) then some (0, (va_up (va_up sB 2 g_27) 3 g_33), iT_29, jT_30) else some (1, (va_up (va_up sB 2 g_27) 3 g_33), iT_29, jT_30)))))))))) else bd (f_X8_refuse N sT iT_9 jT 4) (fun (r_36, iT_37) => zb r_36 (some (r_36, sB, iT_37, jT))))) (fun K_10 => (if y_4 = 0 then (if y_8 = (-1) then some (0, sB, iT_9, jT) else K_10 ()) else K_10 ()))) (fun K_5 => (if y_4 = 0 then bd (f_X8_personHere N sT iT jT iC tC sC) (fun (r_43, iT_44) => K_5 (r_43, iT_44)) else K_5 ((-1), iT)))) (fun K_1 => (if (iT 7) = 12 then K_1 1 else K_1 0))
set_option maxHeartbeats 4000000 in
set_option maxRecDepth 100000 in
theorem c_X0_readLine (l : Launch) (G : GT) (N : Nat) (uB uT uC : Nat → Nat) (sB : Nat → Nat → Int32) (iB : Nat → Int32) (sT : Nat → Nat → Int32) (iT : Nat → Int32) (jT : Nat → Int64) (iC : Nat → Int32) (tC : Nat → Nat → Int64) (sC : Nat → Nat → Int32) {r : Int32} {sB' : Nat → Nat → Int32} {iT' : Nat → Int32} {jT' : Nat → Int64} (hf : f_X0_readLine N sB iB sT iT jT iC tC sC = some (r, sB', iT', jT')) : CI l G yX0_readLine cX0_readLine 3 .boolean 5 [.ref (uB 0)] (gB G uB (uT 0) (uC 0) sB iB ++ gT G uT sT iT jT ++ gC G uC iC tC sC) r (gB G uB (uT 0) (uC 0) sB' iB ++ gT G uT sT iT' jT' ++ gC G uC iC tC sC) := by
  refine CI.of (by decide) (Nat.le_of_ble_eq_true rfl) ?_
  intro p e s m args below meth c A X hA hP hD hS ls hl
  have hl : lv_has ls 3 [(0, .ref (uB 0))] := hl
  generalize hQ : MQ below (QI G A r (gB G uB (uT 0) (uC 0) sB' iB ++ gT G uT sT iT' jT' ++ gC G uC iC tC sC)) args s 0 0 A = QQ
  unfold f_X0_readLine at hf
  refine lv_aload_n X.hx X.hb dX0_readLine_0 rfl (lv_at hl 0 rfl) ?_
  refine gf_X0_24 X hP 0 rfl (v := .ref (uT 0)) rfl dX0_readLine_1 ?_
  refine gf_X0_56 X hP 5 rfl (v := .int (iT 7)) rfl dX0_readLine_4 ?_
  refine lv_bipush (v := 12) X.hx X.hb dX0_readLine_7 (by decide) ?_
  obtain ⟨K_1, eK_3, hf⟩ := jn_i hf
  have hj_2 : ∀ (y_4 : Int32) (H : Heap) (locs : List Loc) (ls : Array Slot), K_1 y_4 = some (r, sB', iT', jT') → va_P G.1 vwCl (gB G uB (uT 0) (uC 0) sB iB ++ gT G uT sT iT jT ++ gC G uC iC tC sC) H → va_D A (gB G uB (uT 0) (uC 0) sB iB ++ gT G uT sT iT jT ++ gC G uC iC tC sC) → va_S A s.heap H locs → lv_has ls 3 [(0, .ref (uB 0))] → W p l e (RM 5) s m args below meth c H locs 0 0 QQ (F0 m 17 ls [.int y_4]) := by
    intro y_4 H locs ls hf hP hD hS hl
    rw [eK_3] at hf
    try dsimp only at hf
    refine lv_istore_n (lv' := [(1, .int y_4), (0, .ref (uB 0))]) X.hx X.hb dX0_readLine_17 rfl hl (by decide) rfl (fun ls hl => ?_)
    refine lv_iload_n X.hx X.hb dX0_readLine_18 rfl (lv_at hl 0 rfl) ?_
    obtain ⟨K_5, eK_7, hf⟩ := jn_i hf
    have hj_6 : ∀ (y_8 : Int32) (iT_9 : Nat → Int32) (H : Heap) (locs : List Loc) (ls : Array Slot), K_5 (y_8, iT_9) = some (r, sB', iT', jT') → va_P G.1 vwCl (gB G uB (uT 0) (uC 0) sB iB ++ gT G uT sT iT_9 jT ++ gC G uC iC tC sC) H → va_D A (gB G uB (uT 0) (uC 0) sB iB ++ gT G uT sT iT_9 jT ++ gC G uC iC tC sC) → va_S A s.heap H locs → lv_has ls 3 [(0, .ref (uB 0)), (1, .int y_4)] → W p l e (RM 5) s m args below meth c H locs 0 0 QQ (F0 m 37 ls [.int y_8]) := by
      intro y_8 iT_9 H locs ls hf hP hD hS hl
      rw [eK_7] at hf
      try dsimp only at hf
      refine lv_istore_n (lv' := [(2, .int y_8), (0, .ref (uB 0)), (1, .int y_4)]) X.hx X.hb dX0_readLine_37 rfl hl (by decide) rfl (fun ls hl => ?_)
      refine lv_iload_n X.hx X.hb dX0_readLine_38 rfl (lv_at hl 2 rfl) ?_
      obtain ⟨K_10, eK_12, hf⟩ := jn_i hf
      have hj_11 : ∀ (H : Heap) (locs : List Loc) (ls : Array Slot), K_10 () = some (r, sB', iT', jT') → va_P G.1 vwCl (gB G uB (uT 0) (uC 0) sB iB ++ gT G uT sT iT_9 jT ++ gC G uC iC tC sC) H → va_D A (gB G uB (uT 0) (uC 0) sB iB ++ gT G uT sT iT_9 jT ++ gC G uC iC tC sC) → va_S A s.heap H locs → lv_has ls 3 [(0, .ref (uB 0)), (1, .int y_4), (2, .int y_8)] → W p l e (RM 5) s m args below meth c H locs 0 0 QQ (F0 m 49 ls []) := by
        intro  H locs ls hf hP hD hS hl
        rw [eK_12] at hf
        try dsimp only at hf
        refine lv_aload_n X.hx X.hb dX0_readLine_49 rfl (lv_at hl 0 rfl) ?_
        refine gf_X0_32 X hP 0 rfl (v := .int (iB 6)) rfl dX0_readLine_50 ?_
        refine lv_bipush (v := 40) X.hx X.hb dX0_readLine_53 (by decide) ?_
        refine lv_icmp_lt (tgt := 67) X.hx X.hb dX0_readLine_55 (by decide) (fun hc_13 => ?_) (fun hc_13 => ?_)
        · replace hf := if_t hf hc_13
          refine lv_aload_n X.hx X.hb dX0_readLine_67 rfl (lv_at hl 0 rfl) ?_
          refine gf_X0_24 X hP 0 rfl (v := .ref (uT 0)) rfl dX0_readLine_68 ?_
          obtain ⟨⟨iT_14, jT_15⟩, hc_16, hf⟩ := bd_i hf
          refine r_bvv (gB G uB (uT 0) (uC 0) sB iB) (gC G uC iC tC sC) (As := []) (rest := []) X sm_X0_65 (c_X8_next l G N uT sT iT_9 jT hc_16) hP hD hS hA (by simp only [List.append_assoc, List.append_nil, List.nil_append]) (wo := (gB G uB (uT 0) (uC 0) sB iB ++ gT G uT sT iT_14 jT_15 ++ gC G uC iC tC sC)) (by simp only [List.append_assoc, List.append_nil, List.nil_append]) 0 rfl rfl rfl hl.1 (lv_room (Nat.le_of_ble_eq_true rfl)) ⟨Nat.le_of_ble_eq_true rfl, Nat.le_of_ble_eq_true rfl⟩ ⟨Nat.zero_le _, Nat.zero_le _⟩ dX0_readLine_71 (fun H locs hP hD hS => ?_)
          refine lv_iload_n X.hx X.hb dX0_readLine_74 rfl (lv_at hl 1 rfl) ?_
          refine lv_if_eq (tgt := 127) X.hx X.hb dX0_readLine_75 (by decide) (fun hc_17 => ?_) (fun hc_17 => ?_)
          · replace hf := if_t hf hc_17
            refine lv_aload_n X.hx X.hb dX0_readLine_127 rfl (lv_at hl 0 rfl) ?_
            refine gf_X0_15 X hP 0 rfl (v := .ref (uB 4)) rfl dX0_readLine_128 ?_
            refine lv_aload_n X.hx X.hb dX0_readLine_131 rfl (lv_at hl 0 rfl) ?_
            refine gf_X0_32 X hP 0 rfl (v := .int (iB 6)) rfl dX0_readLine_132 ?_
            refine lv_iload_n X.hx X.hb dX0_readLine_135 rfl (lv_at hl 2 rfl) ?_
            obtain ⟨hi_18, hf⟩ := ck_i hf
            obtain ⟨g_19, eg_19, hf⟩ := nv_i hf
            refine r_iast X hP hD hS 2 (f := (sB 3)) rfl hi_18 (wo := (gB G uB (uT 0) (uC 0) (va_up sB 3 g_19) iB ++ gT G uT sT iT_14 jT_15 ++ gC G uC iC tC sC)) (by subst eg_19; rfl) dX0_readLine_136 (fun H locs hP hD hS => ?_)
            refine lv_aload_n X.hx X.hb dX0_readLine_137 rfl (lv_at hl 0 rfl) ?_
            obtain ⟨⟨r_20, sB_21, iT_22, jT_23⟩, hc_24, hf⟩ := bd_i hf
            refine r_wvi (As := []) (rest := []) X sm_X0_72 (c_X0_readAct l G N uB uT uC (va_up sB 3 g_19) iB sT iT_14 jT_15 iC tC sC hc_24) hP hD hS hA 0 rfl rfl rfl hl.1 (lv_room (Nat.le_of_ble_eq_true rfl)) ⟨Nat.le_of_ble_eq_true rfl, Nat.le_of_ble_eq_true rfl⟩ ⟨Nat.zero_le _, Nat.zero_le _⟩ dX0_readLine_138 (fun H locs hP hD hS => ?_)
            obtain ⟨hb_25, hf⟩ := zb_i hf
            cases hf
            subst hQ
            exact r_zret X hP hD hS hb_25 dX0_readLine_141
          · replace hf := if_f hf hc_17
            refine lv_aload_n X.hx X.hb dX0_readLine_78 rfl (lv_at hl 0 rfl) ?_
            refine gf_X0_11 X hP 0 rfl (v := .ref (uB 3)) rfl dX0_readLine_79 ?_
            refine lv_aload_n X.hx X.hb dX0_readLine_82 rfl (lv_at hl 0 rfl) ?_
            refine gf_X0_32 X hP 0 rfl (v := .int (iB 6)) rfl dX0_readLine_83 ?_
            refine lv_bipush (v := 12) X.hx X.hb dX0_readLine_86 (by decide) ?_
            obtain ⟨hi_26, hf⟩ := ck_i hf
            obtain ⟨g_27, eg_27, hf⟩ := nv_i hf
            refine r_iast X hP hD hS 1 (f := (sB 2)) rfl hi_26 (wo := (gB G uB (uT 0) (uC 0) (va_up sB 2 g_27) iB ++ gT G uT sT iT_14 jT_15 ++ gC G uC iC tC sC)) (by subst eg_27; rfl) dX0_readLine_88 (fun H locs hP hD hS => ?_)
            refine lv_aload_n X.hx X.hb dX0_readLine_89 rfl (lv_at hl 0 rfl) ?_
            refine gf_X0_15 X hP 0 rfl (v := .ref (uB 4)) rfl dX0_readLine_90 ?_
            refine lv_aload_n X.hx X.hb dX0_readLine_93 rfl (lv_at hl 0 rfl) ?_
            refine gf_X0_32 X hP 0 rfl (v := .int (iB 6)) rfl dX0_readLine_94 ?_
            refine lv_aload_n X.hx X.hb dX0_readLine_97 rfl (lv_at hl 0 rfl) ?_
            refine gf_X0_24 X hP 0 rfl (v := .ref (uT 0)) rfl dX0_readLine_98 ?_
            refine lv_iconst (v := 1) X.hx X.hb dX0_readLine_101 (by decide) ?_
            refine lv_bipush (v := 60) X.hx X.hb dX0_readLine_102 (by decide) ?_
            obtain ⟨⟨r_28, iT_29, jT_30⟩, hc_31, hf⟩ := bd_i hf
            refine r_bvi (gB G uB (uT 0) (uC 0) (va_up sB 2 g_27) iB) (gC G uC iC tC sC) (As := [.int 1, .int 60]) (rest := [.int (iB 6), .ref (uB 4)]) X sm_X0_68 (c_X8_passNumber l G N uT sT iT_14 jT_15 1 60 hc_31) hP hD hS hA (by simp only [List.append_assoc, List.append_nil, List.nil_append]) (wo := (gB G uB (uT 0) (uC 0) (va_up sB 2 g_27) iB ++ gT G uT sT iT_29 jT_30 ++ gC G uC iC tC sC)) (by simp only [List.append_assoc, List.append_nil, List.nil_append]) 0 rfl rfl rfl hl.1 (lv_room (Nat.le_of_ble_eq_true rfl)) ⟨Nat.le_of_ble_eq_true rfl, Nat.le_of_ble_eq_true rfl⟩ ⟨Nat.zero_le _, Nat.zero_le _⟩ dX0_readLine_104 (fun H locs hP hD hS => ?_)
            obtain ⟨hi_32, hf⟩ := ck_i hf
            obtain ⟨g_33, eg_33, hf⟩ := nv_i hf
            refine r_iast X hP hD hS 2 (f := (sB 3)) rfl hi_32 (wo := (gB G uB (uT 0) (uC 0) (va_up (va_up sB 2 g_27) 3 g_33) iB ++ gT G uT sT iT_29 jT_30 ++ gC G uC iC tC sC)) (by subst eg_33; rfl) dX0_readLine_107 (fun H locs hP hD hS => ?_)
            refine lv_aload_n X.hx X.hb dX0_readLine_108 rfl (lv_at hl 0 rfl) ?_
            refine gf_X0_15 X hP 0 rfl (v := .ref (uB 4)) rfl dX0_readLine_109 ?_
            refine lv_aload_n X.hx X.hb dX0_readLine_112 rfl (lv_at hl 0 rfl) ?_
            refine gf_X0_32 X hP 0 rfl (v := .int (iB 6)) rfl dX0_readLine_113 ?_
            obtain ⟨hi_34, hf⟩ := ck_i hf
            refine r_iald X hP 2 (f := g_33) rfl hi_34 dX0_readLine_116 ?_
            refine lv_iconst (v := (-1)) X.hx X.hb dX0_readLine_117 (by decide) ?_
            refine lv_icmp_eq (tgt := 125) X.hx X.hb dX0_readLine_118 (by decide) (fun hc_35 => ?_) (fun hc_35 => ?_)
            · replace hf := if_t hf hc_35
              refine lv_iconst (v := 0) X.hx X.hb dX0_readLine_125 (by decide) ?_
              cases hf
              subst hQ
              exact r_zret X hP hD hS (by decide) dX0_readLine_126
            · replace hf := if_f hf hc_35
              refine lv_iconst (v := 1) X.hx X.hb dX0_readLine_121 (by decide) ?_
              refine lv_goto (tgt := 126) X.hx X.hb dX0_readLine_122 (by decide) ?_
              cases hf
              subst hQ
              exact r_zret X hP hD hS (by decide) dX0_readLine_126
        · replace hf := if_f hf hc_13
          refine lv_aload_n X.hx X.hb dX0_readLine_58 rfl (lv_at hl 0 rfl) ?_
          refine gf_X0_24 X hP 0 rfl (v := .ref (uT 0)) rfl dX0_readLine_59 ?_
          refine lv_iconst (v := 4) X.hx X.hb dX0_readLine_62 (by decide) ?_
          obtain ⟨⟨r_36, iT_37⟩, hc_38, hf⟩ := bd_i hf
          refine r_bvi (gB G uB (uT 0) (uC 0) sB iB) (gC G uC iC tC sC) (As := [.int 4]) (rest := []) X sm_X0_62 (c_X8_refuse l G N uT sT iT_9 jT 4 hc_38) hP hD hS hA (by simp only [List.append_assoc, List.append_nil, List.nil_append]) (wo := (gB G uB (uT 0) (uC 0) sB iB ++ gT G uT sT iT_37 jT ++ gC G uC iC tC sC)) (by simp only [List.append_assoc, List.append_nil, List.nil_append]) 0 rfl rfl rfl hl.1 (lv_room (Nat.le_of_ble_eq_true rfl)) ⟨Nat.le_of_ble_eq_true rfl, Nat.le_of_ble_eq_true rfl⟩ ⟨Nat.zero_le _, Nat.zero_le _⟩ dX0_readLine_63 (fun H locs hP hD hS => ?_)
          obtain ⟨hb_39, hf⟩ := zb_i hf
          cases hf
          subst hQ
          exact r_zret X hP hD hS hb_39 dX0_readLine_66
      refine lv_if_ne (tgt := 49) X.hx X.hb dX0_readLine_39 (by decide) (fun hc_40 => ?_) (fun hc_40 => ?_)
      · replace hf := if_f hf hc_40
        exact hj_11 _ _ _ hf hP hD hS (lv_sub hl [1, 2, 0] rfl)
      · replace hf := if_t hf hc_40
        refine lv_iload_n X.hx X.hb dX0_readLine_42 rfl (lv_at hl 0 rfl) ?_
        refine lv_iconst (v := (-1)) X.hx X.hb dX0_readLine_43 (by decide) ?_
        refine lv_icmp_ne (tgt := 49) X.hx X.hb dX0_readLine_44 (by decide) (fun hc_41 => ?_) (fun hc_41 => ?_)
        · replace hf := if_f hf hc_41
          exact hj_11 _ _ _ hf hP hD hS (lv_sub hl [1, 2, 0] rfl)
        · replace hf := if_t hf hc_41
          refine lv_iconst (v := 0) X.hx X.hb dX0_readLine_47 (by decide) ?_
          cases hf
          subst hQ
          exact r_zret X hP hD hS (by decide) dX0_readLine_48
    refine lv_if_eq (tgt := 26) X.hx X.hb dX0_readLine_19 (by decide) (fun hc_42 => ?_) (fun hc_42 => ?_)
    · replace hf := if_t hf hc_42
      refine lv_aload_n X.hx X.hb dX0_readLine_26 rfl (lv_at hl 1 rfl) ?_
      refine gf_X0_24 X hP 0 rfl (v := .ref (uT 0)) rfl dX0_readLine_27 ?_
      refine lv_aload_n X.hx X.hb dX0_readLine_30 rfl (lv_at hl 1 rfl) ?_
      refine gf_X0_28 X hP 0 rfl (v := .ref (uC 0)) rfl dX0_readLine_31 ?_
      obtain ⟨⟨r_43, iT_44⟩, hc_45, hf⟩ := bd_i hf
      refine r_bvi (gB G uB (uT 0) (uC 0) sB iB) ([] : va_W) (As := [.ref (uC 0)]) (rest := []) X sm_X0_58 (c_X8_personHere l G N uT uC sT iT jT iC tC sC hc_45) hP hD hS hA (by simp only [List.append_assoc, List.append_nil, List.nil_append]) (wo := (gB G uB (uT 0) (uC 0) sB iB ++ gT G uT sT iT_44 jT ++ gC G uC iC tC sC)) (by simp only [List.append_assoc, List.append_nil, List.nil_append]) 0 rfl rfl rfl hl.1 (lv_room (Nat.le_of_ble_eq_true rfl)) ⟨Nat.le_of_ble_eq_true rfl, Nat.le_of_ble_eq_true rfl⟩ ⟨Nat.zero_le _, Nat.zero_le _⟩ dX0_readLine_34 (fun H locs hP hD hS => ?_)
      exact hj_6 _ _ _ _ _ hf hP hD hS (lv_sub hl [1, 0] rfl)
    · replace hf := if_f hf hc_42
      refine lv_iconst (v := (-1)) X.hx X.hb dX0_readLine_22 (by decide) ?_
      refine lv_goto (tgt := 37) X.hx X.hb dX0_readLine_23 (by decide) ?_
      exact hj_6 _ _ _ _ _ hf hP hD hS (lv_sub hl [1, 0] rfl)
  refine lv_icmp_ne (tgt := 16) X.hx X.hb dX0_readLine_9 (by decide) (fun hc_46 => ?_) (fun hc_46 => ?_)
  · replace hf := if_f hf hc_46
    refine lv_iconst (v := 0) X.hx X.hb dX0_readLine_16 (by decide) ?_
    exact hj_2 _ _ _ _ hf hP hD hS (lv_sub hl [0] rfl)
  · replace hf := if_t hf hc_46
    refine lv_iconst (v := 1) X.hx X.hb dX0_readLine_12 (by decide) ?_
    refine lv_goto (tgt := 17) X.hx X.hb dX0_readLine_13 (by decide) ?_
    exact hj_2 _ _ _ _ hf hP hD hS (lv_sub hl [0] rfl)

def f_X0_readText_17 (N : Nat) (sT : Nat → Nat → Int32) (iC : Nat → Int32) (tC : Nat → Nat → Int64) (sC : Nat → Nat → Int32) (K_4 : ((Nat → Nat → Int32) × (Nat → Int32) × (Nat → Int32) × (Nat → Int64)) → Option (Int32 × (Nat → Nat → Int32) × (Nat → Int32) × (Nat → Int32) × (Nat → Int64))) : Nat → (Nat → Nat → Int32) → (Nat → Int32) → (Nat → Int32) → (Nat → Int64) → (Int32) → Option (Int32 × (Nat → Nat → Int32) × (Nat → Int32) × (Nat → Int32) × (Nat → Int64))
  | 0, _, _, _, _, _ => none
  | k + 1, sB, iB, iT, jT, v1 => (if (40 : Int32) < v1 then K_4 (sB, iB, iT, jT) else bd (f_X8_isAtEnd N sT iT jT) (fun r_37 => (if r_37 = 0 then bd (f_X0_readLine N sB iB sT iT jT iC tC sC) (fun (r_40, sB_41, iT_42, jT_43) => (if r_40 = 0 then some (0, sB_41, iB, iT_42, jT_43) else bd (f_X8_passSign N sT iT_42 jT_43 59) (fun (r_46, iT_47, jT_48) => (if r_46 = 0 then some (0, sB_41, iB, iT_47, jT_48) else f_X0_readText_17 N sT iC tC sC K_4 k sB_41 (va_up iB 6 ((iB 6) + 1)) iT_47 jT_48 (v1 + 1))))) else K_4 (sB, iB, iT, jT))))
def f_X0_readText (N : Nat) (sB : Nat → Nat → Int32) (iB : Nat → Int32) (sT : Nat → Nat → Int32) (iT : Nat → Int32) (jT : Nat → Int64) (iC : Nat → Int32) (tC : Nat → Nat → Int64) (sC : Nat → Nat → Int32) : Option (Int32 × (Nat → Nat → Int32) × (Nat → Int32) × (Nat → Int32) × (Nat → Int64)) :=
  bd (f_X8_open N sT iT jT 400) (fun (iT_1, jT_2) => jn (fun (z : (Nat → Nat → Int32) × (Nat → Int32) × (Nat → Int32) × (Nat → Int64)) => match z with | (sB_7, iB_8, iT_9, jT_10) => bd (f_X8_passEnd N sT iT_9 jT_10) (fun (r_11, iT_12) => zb r_11 (some (r_11, sB_7, iB_8, iT_12, jT_10)))) (fun K_4 => f_X0_readText_17 N sT iC tC sC K_4 N sB (va_up iB 6 0) iT_1 jT_2 0))
set_option maxHeartbeats 4000000 in
set_option maxRecDepth 100000 in
theorem c_X0_readText (l : Launch) (G : GT) (N : Nat) (uB uT uC : Nat → Nat) (sB : Nat → Nat → Int32) (iB : Nat → Int32) (sT : Nat → Nat → Int32) (iT : Nat → Int32) (jT : Nat → Int64) (iC : Nat → Int32) (tC : Nat → Nat → Int64) (sC : Nat → Nat → Int32) {r : Int32} {sB' : Nat → Nat → Int32} {iB' : Nat → Int32} {iT' : Nat → Int32} {jT' : Nat → Int64} (hf : f_X0_readText N sB iB sT iT jT iC tC sC = some (r, sB', iB', iT', jT')) : CI l G yX0_readText cX0_readText 2 .boolean 6 [.ref (uB 0)] (gB G uB (uT 0) (uC 0) sB iB ++ gT G uT sT iT jT ++ gC G uC iC tC sC) r (gB G uB (uT 0) (uC 0) sB' iB' ++ gT G uT sT iT' jT' ++ gC G uC iC tC sC) := by
  refine CI.of (by decide) (Nat.le_of_ble_eq_true rfl) ?_
  intro p e s m args below meth c A X hA hP hD hS ls hl
  have hl : lv_has ls 2 [(0, .ref (uB 0))] := hl
  generalize hQ : MQ below (QI G A r (gB G uB (uT 0) (uC 0) sB' iB' ++ gT G uT sT iT' jT' ++ gC G uC iC tC sC)) args s 0 0 A = QQ
  unfold f_X0_readText at hf
  refine lv_aload_n X.hx X.hb dX0_readText_0 rfl (lv_at hl 0 rfl) ?_
  refine lv_iconst (v := 0) X.hx X.hb dX0_readText_1 (by decide) ?_
  refine pf_X0_32 X hP hD hS 0 rfl rfl rfl (Nat.le_of_ble_eq_true rfl) (wo := (gB G uB (uT 0) (uC 0) sB (va_up iB 6 0) ++ gT G uT sT iT jT ++ gC G uC iC tC sC)) rfl dX0_readText_2 (fun H locs hP hD hS => ?_)
  refine lv_aload_n X.hx X.hb dX0_readText_5 rfl (lv_at hl 0 rfl) ?_
  refine gf_X0_24 X hP 0 rfl (v := .ref (uT 0)) rfl dX0_readText_6 ?_
  refine lv_sipush (v := 400) X.hx X.hb dX0_readText_9 (by decide) ?_
  obtain ⟨⟨iT_1, jT_2⟩, hc_3, hf⟩ := bd_i hf
  refine r_bvv (gB G uB (uT 0) (uC 0) sB (va_up iB 6 0)) (gC G uC iC tC sC) (As := [.int 400]) (rest := []) X sm_X0_36 (c_X8_open l G N uT sT iT jT 400 hc_3) hP hD hS hA (by simp only [List.append_assoc, List.append_nil, List.nil_append]) (wo := (gB G uB (uT 0) (uC 0) sB (va_up iB 6 0) ++ gT G uT sT iT_1 jT_2 ++ gC G uC iC tC sC)) (by simp only [List.append_assoc, List.append_nil, List.nil_append]) 0 rfl rfl rfl hl.1 (lv_room (Nat.le_of_ble_eq_true rfl)) ⟨Nat.le_of_ble_eq_true rfl, Nat.le_of_ble_eq_true rfl⟩ ⟨Nat.zero_le _, Nat.zero_le _⟩ dX0_readText_12 (fun H locs hP hD hS => ?_)
  refine lv_iconst (v := 0) X.hx X.hb dX0_readText_15 (by decide) ?_
  refine lv_istore_n (lv' := [(1, .int 0), (0, .ref (uB 0))]) X.hx X.hb dX0_readText_16 rfl hl (by decide) rfl (fun ls hl => ?_)
  obtain ⟨K_4, eK_6, hf⟩ := jn_i hf
  have hj_5 : ∀ (sB_7 : Nat → Nat → Int32) (iB_8 : Nat → Int32) (iT_9 : Nat → Int32) (jT_10 : Nat → Int64) (H : Heap) (locs : List Loc) (ls : Array Slot), K_4 (sB_7, iB_8, iT_9, jT_10) = some (r, sB', iB', iT', jT') → va_P G.1 vwCl (gB G uB (uT 0) (uC 0) sB_7 iB_8 ++ gT G uT sT iT_9 jT_10 ++ gC G uC iC tC sC) H → va_D A (gB G uB (uT 0) (uC 0) sB_7 iB_8 ++ gT G uT sT iT_9 jT_10 ++ gC G uC iC tC sC) → va_S A s.heap H locs → lv_has ls 2 [(0, .ref (uB 0))] → W p l e (RM 6) s m args below meth c H locs 0 0 QQ (F0 m 70 ls []) := by
    intro sB_7 iB_8 iT_9 jT_10 H locs ls hf hP hD hS hl
    rw [eK_6] at hf
    try dsimp only at hf
    refine lv_aload_n X.hx X.hb dX0_readText_70 rfl (lv_at hl 0 rfl) ?_
    refine gf_X0_24 X hP 0 rfl (v := .ref (uT 0)) rfl dX0_readText_71 ?_
    obtain ⟨⟨r_11, iT_12⟩, hc_13, hf⟩ := bd_i hf
    refine r_bvi (gB G uB (uT 0) (uC 0) sB_7 iB_8) (gC G uC iC tC sC) (As := []) (rest := []) X sm_X0_53 (c_X8_passEnd l G N uT sT iT_9 jT_10 hc_13) hP hD hS hA (by simp only [List.append_assoc, List.append_nil, List.nil_append]) (wo := (gB G uB (uT 0) (uC 0) sB_7 iB_8 ++ gT G uT sT iT_12 jT_10 ++ gC G uC iC tC sC)) (by simp only [List.append_assoc, List.append_nil, List.nil_append]) 0 rfl rfl rfl hl.1 (lv_room (Nat.le_of_ble_eq_true rfl)) ⟨Nat.le_of_ble_eq_true rfl, Nat.le_of_ble_eq_true rfl⟩ ⟨Nat.zero_le _, Nat.zero_le _⟩ dX0_readText_74 (fun H locs hP hD hS => ?_)
    obtain ⟨hb_14, hf⟩ := zb_i hf
    cases hf
    subst hQ
    exact r_zret X hP hD hS hb_14 dX0_readText_77
  have hlo_15 : ∀ (k : Nat) (sB_16 : Nat → Nat → Int32) (iB_17 : Nat → Int32) (iT_18 : Nat → Int32) (jT_19 : Nat → Int64) (v1_20 : Int32) (H : Heap) (locs : List Loc) (ls : Array Slot), f_X0_readText_17 N sT iC tC sC K_4 k sB_16 iB_17 iT_18 jT_19 v1_20 = some (r, sB', iB', iT', jT') → va_P G.1 vwCl (gB G uB (uT 0) (uC 0) sB_16 iB_17 ++ gT G uT sT iT_18 jT_19 ++ gC G uC iC tC sC) H → va_D A (gB G uB (uT 0) (uC 0) sB_16 iB_17 ++ gT G uT sT iT_18 jT_19 ++ gC G uC iC tC sC) → va_S A s.heap H locs → lv_has ls 2 [(0, .ref (uB 0)), (1, .int v1_20)] → W p l e (RM 6) s m args below meth c H locs 0 0 QQ (F0 m 17 ls []) := by
    intro k
    induction k with
    | zero => intro sB_16 iB_17 iT_18 jT_19 v1_20 H locs ls hf; exact absurd hf (by intro q; cases q)
    | succ k ih =>
      intro sB_16 iB_17 iT_18 jT_19 v1_20 H locs ls hf hP hD hS hl
      unfold f_X0_readText_17 at hf
      refine lv_iload_n X.hx X.hb dX0_readText_17 rfl (lv_at hl 1 rfl) ?_
      refine lv_bipush (v := 40) X.hx X.hb dX0_readText_18 (by decide) ?_
      refine lv_icmp_gt (tgt := 70) X.hx X.hb dX0_readText_20 (by decide) (fun hc_21 => ?_) (fun hc_21 => ?_)
      · replace hf := if_t hf hc_21
        exact hj_5 _ _ _ _ _ _ _ hf hP hD hS (lv_sub hl [0] rfl)
      · replace hf := if_f hf hc_21
        refine lv_aload_n X.hx X.hb dX0_readText_23 rfl (lv_at hl 0 rfl) ?_
        refine gf_X0_24 X hP 0 rfl (v := .ref (uT 0)) rfl dX0_readText_24 ?_
        obtain ⟨r_22, hc_23, hf⟩ := bd_i hf
        refine r_bvi (gB G uB (uT 0) (uC 0) sB_16 iB_17) (gC G uC iC tC sC) (As := []) (rest := []) X sm_X0_42 (c_X8_isAtEnd l G N uT sT iT_18 jT_19 hc_23) hP hD hS hA (by simp only [List.append_assoc, List.append_nil, List.nil_append]) (wo := (gB G uB (uT 0) (uC 0) sB_16 iB_17 ++ gT G uT sT iT_18 jT_19 ++ gC G uC iC tC sC)) (by simp only [List.append_assoc, List.append_nil, List.nil_append]) 0 rfl rfl rfl hl.1 (lv_room (Nat.le_of_ble_eq_true rfl)) ⟨Nat.le_of_ble_eq_true rfl, Nat.le_of_ble_eq_true rfl⟩ ⟨Nat.zero_le _, Nat.zero_le _⟩ dX0_readText_27 (fun H locs hP hD hS => ?_)
        refine lv_if_ne (tgt := 70) X.hx X.hb dX0_readText_30 (by decide) (fun hc_24 => ?_) (fun hc_24 => ?_)
        · replace hf := if_f hf hc_24
          exact hj_5 _ _ _ _ _ _ _ hf hP hD hS (lv_sub hl [0] rfl)
        · replace hf := if_t hf hc_24
          refine lv_aload_n X.hx X.hb dX0_readText_33 rfl (lv_at hl 0 rfl) ?_
          obtain ⟨⟨r_25, sB_26, iT_27, jT_28⟩, hc_29, hf⟩ := bd_i hf
          refine r_wvi (As := []) (rest := []) X sm_X0_46 (c_X0_readLine l G N uB uT uC sB_16 iB_17 sT iT_18 jT_19 iC tC sC hc_29) hP hD hS hA 0 rfl rfl rfl hl.1 (lv_room (Nat.le_of_ble_eq_true rfl)) ⟨Nat.le_of_ble_eq_true rfl, Nat.le_of_ble_eq_true rfl⟩ ⟨Nat.zero_le _, Nat.zero_le _⟩ dX0_readText_34 (fun H locs hP hD hS => ?_)
          refine lv_if_eq (tgt := 52) X.hx X.hb dX0_readText_37 (by decide) (fun hc_30 => ?_) (fun hc_30 => ?_)
          · replace hf := if_t hf hc_30
            refine lv_iconst (v := 0) X.hx X.hb dX0_readText_52 (by decide) ?_
            cases hf
            subst hQ
            exact r_zret X hP hD hS (by decide) dX0_readText_53
          · replace hf := if_f hf hc_30
            refine lv_aload_n X.hx X.hb dX0_readText_40 rfl (lv_at hl 0 rfl) ?_
            refine gf_X0_24 X hP 0 rfl (v := .ref (uT 0)) rfl dX0_readText_41 ?_
            refine lv_bipush (v := 59) X.hx X.hb dX0_readText_44 (by decide) ?_
            obtain ⟨⟨r_31, iT_32, jT_33⟩, hc_34, hf⟩ := bd_i hf
            refine r_bvi (gB G uB (uT 0) (uC 0) sB_26 iB_17) (gC G uC iC tC sC) (As := [.int 59]) (rest := []) X sm_X0_49 (c_X8_passSign l G N uT sT iT_27 jT_28 59 hc_34) hP hD hS hA (by simp only [List.append_assoc, List.append_nil, List.nil_append]) (wo := (gB G uB (uT 0) (uC 0) sB_26 iB_17 ++ gT G uT sT iT_32 jT_33 ++ gC G uC iC tC sC)) (by simp only [List.append_assoc, List.append_nil, List.nil_append]) 0 rfl rfl rfl hl.1 (lv_room (Nat.le_of_ble_eq_true rfl)) ⟨Nat.le_of_ble_eq_true rfl, Nat.le_of_ble_eq_true rfl⟩ ⟨Nat.zero_le _, Nat.zero_le _⟩ dX0_readText_46 (fun H locs hP hD hS => ?_)
            refine lv_if_ne (tgt := 54) X.hx X.hb dX0_readText_49 (by decide) (fun hc_35 => ?_) (fun hc_35 => ?_)
            · replace hf := if_f hf hc_35
              refine lv_aload_n X.hx X.hb dX0_readText_54 rfl (lv_at hl 0 rfl) ?_
              refine lv_dup X.hx X.hb dX0_readText_55 rfl ?_
              refine gf_X0_32 X hP 0 rfl (v := .int (iB_17 6)) rfl dX0_readText_56 ?_
              refine lv_iconst (v := 1) X.hx X.hb dX0_readText_59 (by decide) ?_
              refine lv_iadd X.hx X.hb dX0_readText_60 ?_
              refine pf_X0_32 X hP hD hS 0 rfl rfl rfl (Nat.le_of_ble_eq_true rfl) (wo := (gB G uB (uT 0) (uC 0) sB_26 (va_up iB_17 6 ((iB_17 6) + 1)) ++ gT G uT sT iT_32 jT_33 ++ gC G uC iC tC sC)) rfl dX0_readText_61 (fun H locs hP hD hS => ?_)
              refine lv_iinc (v := (v1_20 + 1)) (lv' := [(1, .int (v1_20 + 1)), (0, .ref (uB 0))]) X.hx X.hb dX0_readText_64 hl (k := 1) rfl rfl (by decide) rfl (fun ls hl => ?_)
              refine lv_goto (tgt := 17) X.hx X.hb dX0_readText_67 (by decide) ?_
              exact ih _ _ _ _ _ _ _ _ hf hP hD hS (lv_sub hl [1, 0] rfl)
            · replace hf := if_t hf hc_35
              refine lv_iconst (v := 0) X.hx X.hb dX0_readText_52 (by decide) ?_
              cases hf
              subst hQ
              exact r_zret X hP hD hS (by decide) dX0_readText_53
  exact hlo_15 N _ _ _ _ _ _ _ _ hf hP hD hS (lv_sub hl [1, 0] rfl)

def f_X0_liveBuy (N : Nat) (iM : Nat → Int32) (sM : Nat → Nat → Int32) (iC : Nat → Int32) (tC : Nat → Nat → Int64) (sC : Nat → Nat → Int32) (p2 : Int32) (p3 : Int32) (p4 : Int32) : Option (Int32 × (Nat → Int32) × (Nat → Nat → Int32)) :=
  bd (f_X4_whyNotBuy N iM sM iC tC sC p2 p3 p4) (fun r_1 => (if r_1 = 0 then bd (f_X4_doBuy N iM sM iC tC sC p2 p3 p4) (fun (iM_4, sM_5) => some (r_1, iM_4, sM_5)) else some (r_1, iM, sM)))
set_option maxHeartbeats 4000000 in
set_option maxRecDepth 100000 in
theorem c_X0_liveBuy (l : Launch) (G : GT) (N : Nat) (uM uC : Nat → Nat) (iM : Nat → Int32) (sM : Nat → Nat → Int32) (iC : Nat → Int32) (tC : Nat → Nat → Int64) (sC : Nat → Nat → Int32) (p2 : Int32) (p3 : Int32) (p4 : Int32) {r : Int32} {iM' : Nat → Int32} {sM' : Nat → Nat → Int32} (hf : f_X0_liveBuy N iM sM iC tC sC p2 p3 p4 = some (r, iM', sM')) : CI l G yX0_liveBuy cX0_liveBuy 5 .int 4 [.ref (uM 0), .int p2, .int p3, .int p4] (gM G uM (uC 0) iM sM ++ gC G uC iC tC sC) r (gM G uM (uC 0) iM' sM' ++ gC G uC iC tC sC) := by
  refine CI.of (by decide) (Nat.le_of_ble_eq_true rfl) ?_
  intro p e s m args below meth c A X hA hP hD hS ls hl
  have hl : lv_has ls 5 [(0, .ref (uM 0)), (1, .int p2), (2, .int p3), (3, .int p4)] := hl
  generalize hQ : MQ below (QI G A r (gM G uM (uC 0) iM' sM' ++ gC G uC iC tC sC)) args s 0 0 A = QQ
  unfold f_X0_liveBuy at hf
  refine lv_aload_n X.hx X.hb dX0_liveBuy_0 rfl (lv_at hl 0 rfl) ?_
  refine lv_iload_n X.hx X.hb dX0_liveBuy_1 rfl (lv_at hl 1 rfl) ?_
  refine lv_iload_n X.hx X.hb dX0_liveBuy_2 rfl (lv_at hl 2 rfl) ?_
  refine lv_iload_n X.hx X.hb dX0_liveBuy_3 rfl (lv_at hl 3 rfl) ?_
  obtain ⟨r_1, hc_2, hf⟩ := bd_i hf
  refine r_wvi (As := [.int p2, .int p3, .int p4]) (rest := []) X sm_X0_127 (c_X4_whyNotBuy l G N uM uC iM sM iC tC sC p2 p3 p4 hc_2) hP hD hS hA 0 rfl rfl rfl hl.1 (lv_room (Nat.le_of_ble_eq_true rfl)) ⟨Nat.le_of_ble_eq_true rfl, Nat.le_of_ble_eq_true rfl⟩ ⟨Nat.zero_le _, Nat.zero_le _⟩ dX0_liveBuy_4 (fun H locs hP hD hS => ?_)
  refine lv_istore (lv' := [(4, .int r_1), (0, .ref (uM 0)), (1, .int p2), (2, .int p3), (3, .int p4)]) X.hx X.hb dX0_liveBuy_7 hl (by decide) rfl (fun ls hl => ?_)
  refine lv_iload X.hx X.hb dX0_liveBuy_9 (lv_at hl 0 rfl) ?_
  refine lv_if_ne (tgt := 21) X.hx X.hb dX0_liveBuy_11 (by decide) (fun hc_3 => ?_) (fun hc_3 => ?_)
  · replace hf := if_f hf hc_3
    refine lv_iload X.hx X.hb dX0_liveBuy_21 (lv_at hl 0 rfl) ?_
    cases hf
    subst hQ
    exact r_iret X hP hD hS dX0_liveBuy_23
  · replace hf := if_t hf hc_3
    refine lv_aload_n X.hx X.hb dX0_liveBuy_14 rfl (lv_at hl 1 rfl) ?_
    refine lv_iload_n X.hx X.hb dX0_liveBuy_15 rfl (lv_at hl 2 rfl) ?_
    refine lv_iload_n X.hx X.hb dX0_liveBuy_16 rfl (lv_at hl 3 rfl) ?_
    refine lv_iload_n X.hx X.hb dX0_liveBuy_17 rfl (lv_at hl 4 rfl) ?_
    obtain ⟨⟨iM_4, sM_5⟩, hc_6, hf⟩ := bd_i hf
    refine r_wvv (As := [.int p2, .int p3, .int p4]) (rest := []) X sm_X0_131 (c_X4_doBuy l G N uM uC iM sM iC tC sC p2 p3 p4 hc_6) hP hD hS hA 0 rfl rfl rfl hl.1 (lv_room (Nat.le_of_ble_eq_true rfl)) ⟨Nat.le_of_ble_eq_true rfl, Nat.le_of_ble_eq_true rfl⟩ ⟨Nat.zero_le _, Nat.zero_le _⟩ dX0_liveBuy_18 (fun H locs hP hD hS => ?_)
    refine lv_iload X.hx X.hb dX0_liveBuy_21 (lv_at hl 0 rfl) ?_
    cases hf
    subst hQ
    exact r_iret X hP hD hS dX0_liveBuy_23

def f_X0_liveNod (N : Nat) (iM : Nat → Int32) (sM : Nat → Nat → Int32) (iC : Nat → Int32) (tC : Nat → Nat → Int64) (sC : Nat → Nat → Int32) (p2 : Int32) (p3 : Int32) : Option (Int32 × (Nat → Int32) × (Nat → Nat → Int32)) :=
  bd (f_X4_whyNotNod N iM sM iC tC sC p2 p3) (fun r_1 => (if r_1 = 0 then bd (f_X4_doNod N iM sM iC tC sC p2 p3) (fun (iM_4, sM_5) => some (0, iM_4, sM_5)) else some (((10 : Int32) + r_1), iM, sM)))
set_option maxHeartbeats 4000000 in
set_option maxRecDepth 100000 in
theorem c_X0_liveNod (l : Launch) (G : GT) (N : Nat) (uM uC : Nat → Nat) (iM : Nat → Int32) (sM : Nat → Nat → Int32) (iC : Nat → Int32) (tC : Nat → Nat → Int64) (sC : Nat → Nat → Int32) (p2 : Int32) (p3 : Int32) {r : Int32} {iM' : Nat → Int32} {sM' : Nat → Nat → Int32} (hf : f_X0_liveNod N iM sM iC tC sC p2 p3 = some (r, iM', sM')) : CI l G yX0_liveNod cX0_liveNod 4 .int 3 [.ref (uM 0), .int p2, .int p3] (gM G uM (uC 0) iM sM ++ gC G uC iC tC sC) r (gM G uM (uC 0) iM' sM' ++ gC G uC iC tC sC) := by
  refine CI.of (by decide) (Nat.le_of_ble_eq_true rfl) ?_
  intro p e s m args below meth c A X hA hP hD hS ls hl
  have hl : lv_has ls 4 [(0, .ref (uM 0)), (1, .int p2), (2, .int p3)] := hl
  generalize hQ : MQ below (QI G A r (gM G uM (uC 0) iM' sM' ++ gC G uC iC tC sC)) args s 0 0 A = QQ
  unfold f_X0_liveNod at hf
  refine lv_aload_n X.hx X.hb dX0_liveNod_0 rfl (lv_at hl 0 rfl) ?_
  refine lv_iload_n X.hx X.hb dX0_liveNod_1 rfl (lv_at hl 1 rfl) ?_
  refine lv_iload_n X.hx X.hb dX0_liveNod_2 rfl (lv_at hl 2 rfl) ?_
  obtain ⟨r_1, hc_2, hf⟩ := bd_i hf
  refine r_wvi (As := [.int p2, .int p3]) (rest := []) X sm_X0_135 (c_X4_whyNotNod l G N uM uC iM sM iC tC sC p2 p3 hc_2) hP hD hS hA 0 rfl rfl rfl hl.1 (lv_room (Nat.le_of_ble_eq_true rfl)) ⟨Nat.le_of_ble_eq_true rfl, Nat.le_of_ble_eq_true rfl⟩ ⟨Nat.zero_le _, Nat.zero_le _⟩ dX0_liveNod_3 (fun H locs hP hD hS => ?_)
  refine lv_istore_n (lv' := [(3, .int r_1), (0, .ref (uM 0)), (1, .int p2), (2, .int p3)]) X.hx X.hb dX0_liveNod_6 rfl hl (by decide) rfl (fun ls hl => ?_)
  refine lv_iload_n X.hx X.hb dX0_liveNod_7 rfl (lv_at hl 0 rfl) ?_
  refine lv_if_ne (tgt := 19) X.hx X.hb dX0_liveNod_8 (by decide) (fun hc_3 => ?_) (fun hc_3 => ?_)
  · replace hf := if_f hf hc_3
    refine lv_bipush (v := 10) X.hx X.hb dX0_liveNod_19 (by decide) ?_
    refine lv_iload_n X.hx X.hb dX0_liveNod_21 rfl (lv_at hl 0 rfl) ?_
    refine lv_iadd X.hx X.hb dX0_liveNod_22 ?_
    cases hf
    subst hQ
    exact r_iret X hP hD hS dX0_liveNod_23
  · replace hf := if_t hf hc_3
    refine lv_aload_n X.hx X.hb dX0_liveNod_11 rfl (lv_at hl 1 rfl) ?_
    refine lv_iload_n X.hx X.hb dX0_liveNod_12 rfl (lv_at hl 2 rfl) ?_
    refine lv_iload_n X.hx X.hb dX0_liveNod_13 rfl (lv_at hl 3 rfl) ?_
    obtain ⟨⟨iM_4, sM_5⟩, hc_6, hf⟩ := bd_i hf
    refine r_wvv (As := [.int p2, .int p3]) (rest := []) X sm_X0_138 (c_X4_doNod l G N uM uC iM sM iC tC sC p2 p3 hc_6) hP hD hS hA 0 rfl rfl rfl hl.1 (lv_room (Nat.le_of_ble_eq_true rfl)) ⟨Nat.le_of_ble_eq_true rfl, Nat.le_of_ble_eq_true rfl⟩ ⟨Nat.zero_le _, Nat.zero_le _⟩ dX0_liveNod_14 (fun H locs hP hD hS => ?_)
    refine lv_iconst (v := 0) X.hx X.hb dX0_liveNod_17 (by decide) ?_
    cases hf
    subst hQ
    exact r_iret X hP hD hS dX0_liveNod_18

def f_X0_liveVeil (N : Nat) (iM : Nat → Int32) (sM : Nat → Nat → Int32) (iC : Nat → Int32) (tC : Nat → Nat → Int64) (sC : Nat → Nat → Int32) (p2 : Int32) : Option (Int32 × (Nat → Int32)) :=
  bd (f_X4_whyNotVeil N iM sM iC tC sC p2) (fun r_1 => (if r_1 = 0 then bd (f_X4_doVeil N iM sM iC tC sC p2) (fun iM_4 => some (0, iM_4)) else some (((20 : Int32) + r_1), iM)))
set_option maxHeartbeats 4000000 in
set_option maxRecDepth 100000 in
theorem c_X0_liveVeil (l : Launch) (G : GT) (N : Nat) (uM uC : Nat → Nat) (iM : Nat → Int32) (sM : Nat → Nat → Int32) (iC : Nat → Int32) (tC : Nat → Nat → Int64) (sC : Nat → Nat → Int32) (p2 : Int32) {r : Int32} {iM' : Nat → Int32} (hf : f_X0_liveVeil N iM sM iC tC sC p2 = some (r, iM')) : CI l G yX0_liveVeil cX0_liveVeil 3 .int 3 [.ref (uM 0), .int p2] (gM G uM (uC 0) iM sM ++ gC G uC iC tC sC) r (gM G uM (uC 0) iM' sM ++ gC G uC iC tC sC) := by
  refine CI.of (by decide) (Nat.le_of_ble_eq_true rfl) ?_
  intro p e s m args below meth c A X hA hP hD hS ls hl
  have hl : lv_has ls 3 [(0, .ref (uM 0)), (1, .int p2)] := hl
  generalize hQ : MQ below (QI G A r (gM G uM (uC 0) iM' sM ++ gC G uC iC tC sC)) args s 0 0 A = QQ
  unfold f_X0_liveVeil at hf
  refine lv_aload_n X.hx X.hb dX0_liveVeil_0 rfl (lv_at hl 0 rfl) ?_
  refine lv_iload_n X.hx X.hb dX0_liveVeil_1 rfl (lv_at hl 1 rfl) ?_
  obtain ⟨r_1, hc_2, hf⟩ := bd_i hf
  refine r_wvi (As := [.int p2]) (rest := []) X sm_X0_142 (c_X4_whyNotVeil l G N uM uC iM sM iC tC sC p2 hc_2) hP hD hS hA 0 rfl rfl rfl hl.1 (lv_room (Nat.le_of_ble_eq_true rfl)) ⟨Nat.le_of_ble_eq_true rfl, Nat.le_of_ble_eq_true rfl⟩ ⟨Nat.zero_le _, Nat.zero_le _⟩ dX0_liveVeil_2 (fun H locs hP hD hS => ?_)
  refine lv_istore_n (lv' := [(2, .int r_1), (0, .ref (uM 0)), (1, .int p2)]) X.hx X.hb dX0_liveVeil_5 rfl hl (by decide) rfl (fun ls hl => ?_)
  refine lv_iload_n X.hx X.hb dX0_liveVeil_6 rfl (lv_at hl 0 rfl) ?_
  refine lv_if_ne (tgt := 17) X.hx X.hb dX0_liveVeil_7 (by decide) (fun hc_3 => ?_) (fun hc_3 => ?_)
  · replace hf := if_f hf hc_3
    refine lv_bipush (v := 20) X.hx X.hb dX0_liveVeil_17 (by decide) ?_
    refine lv_iload_n X.hx X.hb dX0_liveVeil_19 rfl (lv_at hl 0 rfl) ?_
    refine lv_iadd X.hx X.hb dX0_liveVeil_20 ?_
    cases hf
    subst hQ
    exact r_iret X hP hD hS dX0_liveVeil_21
  · replace hf := if_t hf hc_3
    refine lv_aload_n X.hx X.hb dX0_liveVeil_10 rfl (lv_at hl 1 rfl) ?_
    refine lv_iload_n X.hx X.hb dX0_liveVeil_11 rfl (lv_at hl 2 rfl) ?_
    obtain ⟨iM_4, hc_5, hf⟩ := bd_i hf
    refine r_wvv (As := [.int p2]) (rest := []) X sm_X0_146 (c_X4_doVeil l G N uM uC iM sM iC tC sC p2 hc_5) hP hD hS hA 0 rfl rfl rfl hl.1 (lv_room (Nat.le_of_ble_eq_true rfl)) ⟨Nat.le_of_ble_eq_true rfl, Nat.le_of_ble_eq_true rfl⟩ ⟨Nat.zero_le _, Nat.zero_le _⟩ dX0_liveVeil_12 (fun H locs hP hD hS => ?_)
    refine lv_iconst (v := 0) X.hx X.hb dX0_liveVeil_15 (by decide) ?_
    cases hf
    subst hQ
    exact r_iret X hP hD hS dX0_liveVeil_16

def f_X0_liveTell (N : Nat) (iM : Nat → Int32) (sM : Nat → Nat → Int32) (iC : Nat → Int32) (tC : Nat → Nat → Int64) (sC : Nat → Nat → Int32) (p2 : Int32) (p3 : Int32) (p4 : Int32) : Option (Int32 × (Nat → Nat → Int32)) :=
  bd (f_X4_whyNotTell N iM sM iC tC sC p2 p3 p4) (fun r_1 => (if r_1 = 0 then bd (f_X4_meet N iM sM iC tC sC p3 p4) (fun sM_4 => some (0, sM_4)) else some (((30 : Int32) + r_1), sM)))
set_option maxHeartbeats 4000000 in
set_option maxRecDepth 100000 in
theorem c_X0_liveTell (l : Launch) (G : GT) (N : Nat) (uM uC : Nat → Nat) (iM : Nat → Int32) (sM : Nat → Nat → Int32) (iC : Nat → Int32) (tC : Nat → Nat → Int64) (sC : Nat → Nat → Int32) (p2 : Int32) (p3 : Int32) (p4 : Int32) {r : Int32} {sM' : Nat → Nat → Int32} (hf : f_X0_liveTell N iM sM iC tC sC p2 p3 p4 = some (r, sM')) : CI l G yX0_liveTell cX0_liveTell 5 .int 3 [.ref (uM 0), .int p2, .int p3, .int p4] (gM G uM (uC 0) iM sM ++ gC G uC iC tC sC) r (gM G uM (uC 0) iM sM' ++ gC G uC iC tC sC) := by
  refine CI.of (by decide) (Nat.le_of_ble_eq_true rfl) ?_
  intro p e s m args below meth c A X hA hP hD hS ls hl
  have hl : lv_has ls 5 [(0, .ref (uM 0)), (1, .int p2), (2, .int p3), (3, .int p4)] := hl
  generalize hQ : MQ below (QI G A r (gM G uM (uC 0) iM sM' ++ gC G uC iC tC sC)) args s 0 0 A = QQ
  unfold f_X0_liveTell at hf
  refine lv_aload_n X.hx X.hb dX0_liveTell_0 rfl (lv_at hl 0 rfl) ?_
  refine lv_iload_n X.hx X.hb dX0_liveTell_1 rfl (lv_at hl 1 rfl) ?_
  refine lv_iload_n X.hx X.hb dX0_liveTell_2 rfl (lv_at hl 2 rfl) ?_
  refine lv_iload_n X.hx X.hb dX0_liveTell_3 rfl (lv_at hl 3 rfl) ?_
  obtain ⟨r_1, hc_2, hf⟩ := bd_i hf
  refine r_wvi (As := [.int p2, .int p3, .int p4]) (rest := []) X sm_X0_149 (c_X4_whyNotTell l G N uM uC iM sM iC tC sC p2 p3 p4 hc_2) hP hD hS hA 0 rfl rfl rfl hl.1 (lv_room (Nat.le_of_ble_eq_true rfl)) ⟨Nat.le_of_ble_eq_true rfl, Nat.le_of_ble_eq_true rfl⟩ ⟨Nat.zero_le _, Nat.zero_le _⟩ dX0_liveTell_4 (fun H locs hP hD hS => ?_)
  refine lv_istore (lv' := [(4, .int r_1), (0, .ref (uM 0)), (1, .int p2), (2, .int p3), (3, .int p4)]) X.hx X.hb dX0_liveTell_7 hl (by decide) rfl (fun ls hl => ?_)
  refine lv_iload X.hx X.hb dX0_liveTell_9 (lv_at hl 0 rfl) ?_
  refine lv_if_ne (tgt := 22) X.hx X.hb dX0_liveTell_11 (by decide) (fun hc_3 => ?_) (fun hc_3 => ?_)
  · replace hf := if_f hf hc_3
    refine lv_bipush (v := 30) X.hx X.hb dX0_liveTell_22 (by decide) ?_
    refine lv_iload X.hx X.hb dX0_liveTell_24 (lv_at hl 0 rfl) ?_
    refine lv_iadd X.hx X.hb dX0_liveTell_26 ?_
    cases hf
    subst hQ
    exact r_iret X hP hD hS dX0_liveTell_27
  · replace hf := if_t hf hc_3
    refine lv_aload_n X.hx X.hb dX0_liveTell_14 rfl (lv_at hl 1 rfl) ?_
    refine lv_iload_n X.hx X.hb dX0_liveTell_15 rfl (lv_at hl 3 rfl) ?_
    refine lv_iload_n X.hx X.hb dX0_liveTell_16 rfl (lv_at hl 4 rfl) ?_
    obtain ⟨sM_4, hc_5, hf⟩ := bd_i hf
    refine r_wvv (As := [.int p3, .int p4]) (rest := []) X sm_X0_152 (c_X4_meet l G N uM uC iM sM iC tC sC p3 p4 hc_5) hP hD hS hA 0 rfl rfl rfl hl.1 (lv_room (Nat.le_of_ble_eq_true rfl)) ⟨Nat.le_of_ble_eq_true rfl, Nat.le_of_ble_eq_true rfl⟩ ⟨Nat.zero_le _, Nat.zero_le _⟩ dX0_liveTell_17 (fun H locs hP hD hS => ?_)
    refine lv_iconst (v := 0) X.hx X.hb dX0_liveTell_20 (by decide) ?_
    cases hf
    subst hQ
    exact r_iret X hP hD hS dX0_liveTell_21

def f_X0_liveDays (N : Nat) (iM : Nat → Int32) (sM : Nat → Nat → Int32) (iC : Nat → Int32) (tC : Nat → Nat → Int64) (sC : Nat → Nat → Int32) (p2 : Int32) : Option (Int32 × (Nat → Int32) × (Nat → Nat → Int32)) :=
  (if p2 ≤ ((400 : Int32) - (iM 1)) then bd (f_X4_passDays N iM sM iC tC sC p2) (fun (r_2, iM_3, sM_4) => some (0, iM_3, sM_4)) else some (41, iM, sM))
set_option maxHeartbeats 4000000 in
set_option maxRecDepth 100000 in
theorem c_X0_liveDays (l : Launch) (G : GT) (N : Nat) (uM uC : Nat → Nat) (iM : Nat → Int32) (sM : Nat → Nat → Int32) (iC : Nat → Int32) (tC : Nat → Nat → Int64) (sC : Nat → Nat → Int32) (p2 : Int32) {r : Int32} {iM' : Nat → Int32} {sM' : Nat → Nat → Int32} (hf : f_X0_liveDays N iM sM iC tC sC p2 = some (r, iM', sM')) : CI l G yX0_liveDays cX0_liveDays 2 .int 5 [.ref (uM 0), .int p2] (gM G uM (uC 0) iM sM ++ gC G uC iC tC sC) r (gM G uM (uC 0) iM' sM' ++ gC G uC iC tC sC) := by
  refine CI.of (by decide) (Nat.le_of_ble_eq_true rfl) ?_
  intro p e s m args below meth c A X hA hP hD hS ls hl
  have hl : lv_has ls 2 [(0, .ref (uM 0)), (1, .int p2)] := hl
  generalize hQ : MQ below (QI G A r (gM G uM (uC 0) iM' sM' ++ gC G uC iC tC sC)) args s 0 0 A = QQ
  unfold f_X0_liveDays at hf
  refine lv_iload_n X.hx X.hb dX0_liveDays_0 rfl (lv_at hl 1 rfl) ?_
  refine lv_sipush (v := 400) X.hx X.hb dX0_liveDays_1 (by decide) ?_
  refine lv_aload_n X.hx X.hb dX0_liveDays_4 rfl (lv_at hl 0 rfl) ?_
  refine gf_X0_95 X hP 0 rfl (v := .int (iM 1)) rfl dX0_liveDays_5 ?_
  refine lv_isub X.hx X.hb dX0_liveDays_8 ?_
  refine lv_icmp_le (tgt := 15) X.hx X.hb dX0_liveDays_9 (by decide) (fun hc_1 => ?_) (fun hc_1 => ?_)
  · replace hf := if_t hf hc_1
    refine lv_aload_n X.hx X.hb dX0_liveDays_15 rfl (lv_at hl 0 rfl) ?_
    refine lv_iload_n X.hx X.hb dX0_liveDays_16 rfl (lv_at hl 1 rfl) ?_
    obtain ⟨⟨r_2, iM_3, sM_4⟩, hc_5, hf⟩ := bd_i hf
    refine r_wvi (As := [.int p2]) (rest := []) X sm_X0_155 (c_X4_passDays l G N uM uC iM sM iC tC sC p2 hc_5) hP hD hS hA 0 rfl rfl rfl hl.1 (lv_room (Nat.le_of_ble_eq_true rfl)) ⟨Nat.le_of_ble_eq_true rfl, Nat.le_of_ble_eq_true rfl⟩ ⟨Nat.zero_le _, Nat.zero_le _⟩ dX0_liveDays_17 (fun H locs hP hD hS => ?_)
    refine lv_pop X.hx X.hb dX0_liveDays_20 rfl ?_
    refine lv_iconst (v := 0) X.hx X.hb dX0_liveDays_21 (by decide) ?_
    cases hf
    subst hQ
    exact r_iret X hP hD hS dX0_liveDays_22
  · replace hf := if_f hf hc_1
    refine lv_bipush (v := 41) X.hx X.hb dX0_liveDays_12 (by decide) ?_
    cases hf
    subst hQ
    exact r_iret X hP hD hS dX0_liveDays_14

def f_X0_liveLine (N : Nat) (sB : Nat → Nat → Int32) (iB : Nat → Int32) (iM : Nat → Int32) (sM : Nat → Nat → Int32) (iC : Nat → Int32) (tC : Nat → Nat → Int64) (sC : Nat → Nat → Int32) (p2 : Int32) : Option (Int32 × (Nat → Int32) × (Nat → Nat → Int32)) :=
  ck p2 40 ((if ((sB 2) (ix p2)) = 7 then ck p2 40 (bd (f_X0_liveVeil N iM sM iC tC sC ((sB 3) (ix p2))) (fun (r_4, iM_5) => some (r_4, iM_5, sM))) else (if ((sB 2) (ix p2)) = 9 then ck p2 40 (ck p2 40 (ck p2 40 (bd (f_X0_liveBuy N iM sM iC tC sC ((sB 3) (ix p2)) ((sB 4) (ix p2)) ((sB 5) (ix p2))) (fun (r_11, iM_12, sM_13) => some (r_11, iM_12, sM_13))))) else (if ((sB 2) (ix p2)) = 10 then ck p2 40 (ck p2 40 (bd (f_X0_liveNod N iM sM iC tC sC ((sB 3) (ix p2)) ((sB 4) (ix p2))) (fun (r_18, iM_19, sM_20) => some (r_18, iM_19, sM_20)))) else (if ((sB 2) (ix p2)) = 11 then ck p2 40 (ck p2 40 (ck p2 40 (bd (f_X0_liveTell N iM sM iC tC sC ((sB 3) (ix p2)) ((sB 4) (ix p2)) ((sB 5) (ix p2))) (fun (r_26, sM_27) => some (r_26, iM, sM_27))))) else ck p2 40 (bd (f_X0_liveDays N iM sM iC tC sC ((sB 3) (ix p2))) (fun (r_30, iM_31, sM_32) => some (r_30, iM_31, sM_32))))))))
set_option maxHeartbeats 4000000 in
set_option maxRecDepth 100000 in
theorem c_X0_liveLine (l : Launch) (G : GT) (N : Nat) (uB uM uC : Nat → Nat) (xB0 : Nat) (sB : Nat → Nat → Int32) (iB : Nat → Int32) (iM : Nat → Int32) (sM : Nat → Nat → Int32) (iC : Nat → Int32) (tC : Nat → Nat → Int64) (sC : Nat → Nat → Int32) (p2 : Int32) {r : Int32} {iM' : Nat → Int32} {sM' : Nat → Nat → Int32} (hf : f_X0_liveLine N sB iB iM sM iC tC sC p2 = some (r, iM', sM')) : CI l G yX0_liveLine cX0_liveLine 3 .int 6 [.ref (uB 0), .ref (uM 0), .int p2] (gB G uB xB0 (uC 0) sB iB ++ gM G uM (uC 0) iM sM ++ gC G uC iC tC sC) r (gB G uB xB0 (uC 0) sB iB ++ gM G uM (uC 0) iM' sM' ++ gC G uC iC tC sC) := by
  refine CI.of (by decide) (Nat.le_of_ble_eq_true rfl) ?_
  intro p e s m args below meth c A X hA hP hD hS ls hl
  have hl : lv_has ls 3 [(0, .ref (uB 0)), (1, .ref (uM 0)), (2, .int p2)] := hl
  generalize hQ : MQ below (QI G A r (gB G uB xB0 (uC 0) sB iB ++ gM G uM (uC 0) iM' sM' ++ gC G uC iC tC sC)) args s 0 0 A = QQ
  unfold f_X0_liveLine at hf
  refine lv_aload_n X.hx X.hb dX0_liveLine_0 rfl (lv_at hl 0 rfl) ?_
  refine gf_X0_11 X hP 0 rfl (v := .ref (uB 3)) rfl dX0_liveLine_1 ?_
  refine lv_iload_n X.hx X.hb dX0_liveLine_4 rfl (lv_at hl 2 rfl) ?_
  obtain ⟨hi_1, hf⟩ := ck_i hf
  refine r_iald X hP 1 (f := (sB 2)) rfl hi_1 dX0_liveLine_5 ?_
  by_cases hc_2 : ((sB 2) (ix p2)) = 7
  · replace hf := if_t hf hc_2
    refine lv_tableIn (tgt := 80) X.hx X.hb dX0_liveLine_6 (by rw [hc_2]; decide) (by rw [hc_2]; decide) (by rw [hc_2]; rfl) (by decide) ?_
    refine lv_aload_n X.hx X.hb dX0_liveLine_80 rfl (lv_at hl 1 rfl) ?_
    refine lv_aload_n X.hx X.hb dX0_liveLine_81 rfl (lv_at hl 0 rfl) ?_
    refine gf_X0_15 X hP 0 rfl (v := .ref (uB 4)) rfl dX0_liveLine_82 ?_
    refine lv_iload_n X.hx X.hb dX0_liveLine_85 rfl (lv_at hl 2 rfl) ?_
    obtain ⟨hi_3, hf⟩ := ck_i hf
    refine r_iald X hP 2 (f := (sB 3)) rfl hi_3 dX0_liveLine_86 ?_
    obtain ⟨⟨r_4, iM_5⟩, hc_6, hf⟩ := bd_i hf
    refine r_bsi (gB G uB xB0 (uC 0) sB iB) ([] : va_W) (As := [.ref (uM 0), .int ((sB 3) (ix p2))]) (rest := []) X sm_X0_118 (c_X0_liveVeil l G N uM uC iM sM iC tC sC ((sB 3) (ix p2)) hc_6) hP hD hS hA (by simp only [List.append_assoc, List.append_nil, List.nil_append]) (wo := (gB G uB xB0 (uC 0) sB iB ++ gM G uM (uC 0) iM_5 sM ++ gC G uC iC tC sC)) (by simp only [List.append_assoc, List.append_nil, List.nil_append]) rfl hl.1 (lv_room (Nat.le_of_ble_eq_true rfl)) ⟨Nat.le_of_ble_eq_true rfl, Nat.le_of_ble_eq_true rfl⟩ ⟨Nat.zero_le _, Nat.zero_le _⟩ dX0_liveLine_87 (fun H locs hP hD hS => ?_)
    cases hf
    subst hQ
    exact r_iret X hP hD hS dX0_liveLine_90
  replace hf := if_f hf hc_2
  by_cases hc_7 : ((sB 2) (ix p2)) = 9
  · replace hf := if_t hf hc_7
    refine lv_tableIn (tgt := 40) X.hx X.hb dX0_liveLine_6 (by rw [hc_7]; decide) (by rw [hc_7]; decide) (by rw [hc_7]; rfl) (by decide) ?_
    refine lv_aload_n X.hx X.hb dX0_liveLine_40 rfl (lv_at hl 1 rfl) ?_
    refine lv_aload_n X.hx X.hb dX0_liveLine_41 rfl (lv_at hl 0 rfl) ?_
    refine gf_X0_15 X hP 0 rfl (v := .ref (uB 4)) rfl dX0_liveLine_42 ?_
    refine lv_iload_n X.hx X.hb dX0_liveLine_45 rfl (lv_at hl 2 rfl) ?_
    obtain ⟨hi_8, hf⟩ := ck_i hf
    refine r_iald X hP 2 (f := (sB 3)) rfl hi_8 dX0_liveLine_46 ?_
    refine lv_aload_n X.hx X.hb dX0_liveLine_47 rfl (lv_at hl 0 rfl) ?_
    refine gf_X0_18 X hP 0 rfl (v := .ref (uB 5)) rfl dX0_liveLine_48 ?_
    refine lv_iload_n X.hx X.hb dX0_liveLine_51 rfl (lv_at hl 2 rfl) ?_
    obtain ⟨hi_9, hf⟩ := ck_i hf
    refine r_iald X hP 3 (f := (sB 4)) rfl hi_9 dX0_liveLine_52 ?_
    refine lv_aload_n X.hx X.hb dX0_liveLine_53 rfl (lv_at hl 0 rfl) ?_
    refine gf_X0_21 X hP 0 rfl (v := .ref (uB 6)) rfl dX0_liveLine_54 ?_
    refine lv_iload_n X.hx X.hb dX0_liveLine_57 rfl (lv_at hl 2 rfl) ?_
    obtain ⟨hi_10, hf⟩ := ck_i hf
    refine r_iald X hP 4 (f := (sB 5)) rfl hi_10 dX0_liveLine_58 ?_
    obtain ⟨⟨r_11, iM_12, sM_13⟩, hc_14, hf⟩ := bd_i hf
    refine r_bsi (gB G uB xB0 (uC 0) sB iB) ([] : va_W) (As := [.ref (uM 0), .int ((sB 3) (ix p2)), .int ((sB 4) (ix p2)), .int ((sB 5) (ix p2))]) (rest := []) X sm_X0_110 (c_X0_liveBuy l G N uM uC iM sM iC tC sC ((sB 3) (ix p2)) ((sB 4) (ix p2)) ((sB 5) (ix p2)) hc_14) hP hD hS hA (by simp only [List.append_assoc, List.append_nil, List.nil_append]) (wo := (gB G uB xB0 (uC 0) sB iB ++ gM G uM (uC 0) iM_12 sM_13 ++ gC G uC iC tC sC)) (by simp only [List.append_assoc, List.append_nil, List.nil_append]) rfl hl.1 (lv_room (Nat.le_of_ble_eq_true rfl)) ⟨Nat.le_of_ble_eq_true rfl, Nat.le_of_ble_eq_true rfl⟩ ⟨Nat.zero_le _, Nat.zero_le _⟩ dX0_liveLine_59 (fun H locs hP hD hS => ?_)
    cases hf
    subst hQ
    exact r_iret X hP hD hS dX0_liveLine_62
  replace hf := if_f hf hc_7
  by_cases hc_15 : ((sB 2) (ix p2)) = 10
  · replace hf := if_t hf hc_15
    refine lv_tableIn (tgt := 63) X.hx X.hb dX0_liveLine_6 (by rw [hc_15]; decide) (by rw [hc_15]; decide) (by rw [hc_15]; rfl) (by decide) ?_
    refine lv_aload_n X.hx X.hb dX0_liveLine_63 rfl (lv_at hl 1 rfl) ?_
    refine lv_aload_n X.hx X.hb dX0_liveLine_64 rfl (lv_at hl 0 rfl) ?_
    refine gf_X0_15 X hP 0 rfl (v := .ref (uB 4)) rfl dX0_liveLine_65 ?_
    refine lv_iload_n X.hx X.hb dX0_liveLine_68 rfl (lv_at hl 2 rfl) ?_
    obtain ⟨hi_16, hf⟩ := ck_i hf
    refine r_iald X hP 2 (f := (sB 3)) rfl hi_16 dX0_liveLine_69 ?_
    refine lv_aload_n X.hx X.hb dX0_liveLine_70 rfl (lv_at hl 0 rfl) ?_
    refine gf_X0_18 X hP 0 rfl (v := .ref (uB 5)) rfl dX0_liveLine_71 ?_
    refine lv_iload_n X.hx X.hb dX0_liveLine_74 rfl (lv_at hl 2 rfl) ?_
    obtain ⟨hi_17, hf⟩ := ck_i hf
    refine r_iald X hP 3 (f := (sB 4)) rfl hi_17 dX0_liveLine_75 ?_
    obtain ⟨⟨r_18, iM_19, sM_20⟩, hc_21, hf⟩ := bd_i hf
    refine r_bsi (gB G uB xB0 (uC 0) sB iB) ([] : va_W) (As := [.ref (uM 0), .int ((sB 3) (ix p2)), .int ((sB 4) (ix p2))]) (rest := []) X sm_X0_114 (c_X0_liveNod l G N uM uC iM sM iC tC sC ((sB 3) (ix p2)) ((sB 4) (ix p2)) hc_21) hP hD hS hA (by simp only [List.append_assoc, List.append_nil, List.nil_append]) (wo := (gB G uB xB0 (uC 0) sB iB ++ gM G uM (uC 0) iM_19 sM_20 ++ gC G uC iC tC sC)) (by simp only [List.append_assoc, List.append_nil, List.nil_append]) rfl hl.1 (lv_room (Nat.le_of_ble_eq_true rfl)) ⟨Nat.le_of_ble_eq_true rfl, Nat.le_of_ble_eq_true rfl⟩ ⟨Nat.zero_le _, Nat.zero_le _⟩ dX0_liveLine_76 (fun H locs hP hD hS => ?_)
    cases hf
    subst hQ
    exact r_iret X hP hD hS dX0_liveLine_79
  replace hf := if_f hf hc_15
  by_cases hc_22 : ((sB 2) (ix p2)) = 11
  · replace hf := if_t hf hc_22
    refine lv_tableIn (tgt := 91) X.hx X.hb dX0_liveLine_6 (by rw [hc_22]; decide) (by rw [hc_22]; decide) (by rw [hc_22]; rfl) (by decide) ?_
    refine lv_aload_n X.hx X.hb dX0_liveLine_91 rfl (lv_at hl 1 rfl) ?_
    refine lv_aload_n X.hx X.hb dX0_liveLine_92 rfl (lv_at hl 0 rfl) ?_
    refine gf_X0_15 X hP 0 rfl (v := .ref (uB 4)) rfl dX0_liveLine_93 ?_
    refine lv_iload_n X.hx X.hb dX0_liveLine_96 rfl (lv_at hl 2 rfl) ?_
    obtain ⟨hi_23, hf⟩ := ck_i hf
    refine r_iald X hP 2 (f := (sB 3)) rfl hi_23 dX0_liveLine_97 ?_
    refine lv_aload_n X.hx X.hb dX0_liveLine_98 rfl (lv_at hl 0 rfl) ?_
    refine gf_X0_18 X hP 0 rfl (v := .ref (uB 5)) rfl dX0_liveLine_99 ?_
    refine lv_iload_n X.hx X.hb dX0_liveLine_102 rfl (lv_at hl 2 rfl) ?_
    obtain ⟨hi_24, hf⟩ := ck_i hf
    refine r_iald X hP 3 (f := (sB 4)) rfl hi_24 dX0_liveLine_103 ?_
    refine lv_aload_n X.hx X.hb dX0_liveLine_104 rfl (lv_at hl 0 rfl) ?_
    refine gf_X0_21 X hP 0 rfl (v := .ref (uB 6)) rfl dX0_liveLine_105 ?_
    refine lv_iload_n X.hx X.hb dX0_liveLine_108 rfl (lv_at hl 2 rfl) ?_
    obtain ⟨hi_25, hf⟩ := ck_i hf
    refine r_iald X hP 4 (f := (sB 5)) rfl hi_25 dX0_liveLine_109 ?_
    obtain ⟨⟨r_26, sM_27⟩, hc_28, hf⟩ := bd_i hf
    refine r_bsi (gB G uB xB0 (uC 0) sB iB) ([] : va_W) (As := [.ref (uM 0), .int ((sB 3) (ix p2)), .int ((sB 4) (ix p2)), .int ((sB 5) (ix p2))]) (rest := []) X sm_X0_121 (c_X0_liveTell l G N uM uC iM sM iC tC sC ((sB 3) (ix p2)) ((sB 4) (ix p2)) ((sB 5) (ix p2)) hc_28) hP hD hS hA (by simp only [List.append_assoc, List.append_nil, List.nil_append]) (wo := (gB G uB xB0 (uC 0) sB iB ++ gM G uM (uC 0) iM sM_27 ++ gC G uC iC tC sC)) (by simp only [List.append_assoc, List.append_nil, List.nil_append]) rfl hl.1 (lv_room (Nat.le_of_ble_eq_true rfl)) ⟨Nat.le_of_ble_eq_true rfl, Nat.le_of_ble_eq_true rfl⟩ ⟨Nat.zero_le _, Nat.zero_le _⟩ dX0_liveLine_110 (fun H locs hP hD hS => ?_)
    cases hf
    subst hQ
    exact r_iret X hP hD hS dX0_liveLine_113
  replace hf := if_f hf hc_22
  refine r_tbd (tgt := 114) X.hx X.hb dX0_liveLine_6 [7, 9, 10, 11] (by decide) (List.forall_mem_cons.mpr ⟨lv_neT hc_2 rfl, List.forall_mem_cons.mpr ⟨lv_neT hc_7 rfl, List.forall_mem_cons.mpr ⟨lv_neT hc_15 rfl, List.forall_mem_cons.mpr ⟨lv_neT hc_22 rfl, fun _ h => absurd h List.not_mem_nil⟩⟩⟩⟩) (by decide) ?_
  refine lv_aload_n X.hx X.hb dX0_liveLine_114 rfl (lv_at hl 1 rfl) ?_
  refine lv_aload_n X.hx X.hb dX0_liveLine_115 rfl (lv_at hl 0 rfl) ?_
  refine gf_X0_15 X hP 0 rfl (v := .ref (uB 4)) rfl dX0_liveLine_116 ?_
  refine lv_iload_n X.hx X.hb dX0_liveLine_119 rfl (lv_at hl 2 rfl) ?_
  obtain ⟨hi_29, hf⟩ := ck_i hf
  refine r_iald X hP 2 (f := (sB 3)) rfl hi_29 dX0_liveLine_120 ?_
  obtain ⟨⟨r_30, iM_31, sM_32⟩, hc_33, hf⟩ := bd_i hf
  refine r_bsi (gB G uB xB0 (uC 0) sB iB) ([] : va_W) (As := [.ref (uM 0), .int ((sB 3) (ix p2))]) (rest := []) X sm_X0_124 (c_X0_liveDays l G N uM uC iM sM iC tC sC ((sB 3) (ix p2)) hc_33) hP hD hS hA (by simp only [List.append_assoc, List.append_nil, List.nil_append]) (wo := (gB G uB xB0 (uC 0) sB iB ++ gM G uM (uC 0) iM_31 sM_32 ++ gC G uC iC tC sC)) (by simp only [List.append_assoc, List.append_nil, List.nil_append]) rfl hl.1 (lv_room (Nat.le_of_ble_eq_true rfl)) ⟨Nat.le_of_ble_eq_true rfl, Nat.le_of_ble_eq_true rfl⟩ ⟨Nat.zero_le _, Nat.zero_le _⟩ dX0_liveLine_121 (fun H locs hP hD hS => ?_)
  cases hf
  subst hQ
  exact r_iret X hP hD hS dX0_liveLine_124

def f_X0_judge_15 (N : Nat) (sB : Nat → Nat → Int32) (iC : Nat → Int32) (tC : Nat → Nat → Int64) (sC : Nat → Nat → Int32) (K_1 : ((Nat → Int32) × (Nat → Int32) × (Nat → Nat → Int32)) → Option ((Nat → Int32) × (Nat → Int32) × (Nat → Nat → Int32))) : Nat → (Nat → Int32) → (Nat → Int32) → (Nat → Nat → Int32) → Option ((Nat → Int32) × (Nat → Int32) × (Nat → Nat → Int32))
  | 0, _, _, _ => none
  | k + 1, iB, iM, sM => (if (iB 8) = 0 then (if (iB 6) ≤ (iB 9) then K_1 (iB, iM, sM) else bd (f_X0_liveLine N sB iB iM sM iC tC sC (iB 9)) (fun (r_22, iM_23, sM_24) => (if r_22 = 0 then f_X0_judge_15 N sB iC tC sC K_1 k (va_up (va_up iB 8 r_22) 9 ((iB 9) + 1)) iM_23 sM_24 else f_X0_judge_15 N sB iC tC sC K_1 k (va_up iB 8 r_22) iM_23 sM_24))) else K_1 (iB, iM, sM))
def f_X0_judge (N : Nat) (sB : Nat → Nat → Int32) (iB : Nat → Int32) (iM : Nat → Int32) (sM : Nat → Nat → Int32) (iC : Nat → Int32) (tC : Nat → Nat → Int64) (sC : Nat → Nat → Int32) : Option ((Nat → Int32) × (Nat → Int32) × (Nat → Nat → Int32)) :=
  jn (fun (z : (Nat → Int32) × (Nat → Int32) × (Nat → Nat → Int32)) => match z with | (iB_4, iM_5, sM_6) => bd (f_X4_fed N iM_5 sM_6 iC tC sC) (fun r_7 => some ((va_up (va_up iB_4 10 (iM_5 1)) 11 r_7), iM_5, sM_6))) (fun K_1 => f_X0_judge_15 N sB iC tC sC K_1 N (va_up (va_up (va_up iB 7 1) 8 0) 9 0) iM sM)
set_option maxHeartbeats 4000000 in
set_option maxRecDepth 100000 in
theorem c_X0_judge (l : Launch) (G : GT) (N : Nat) (uB uM uC : Nat → Nat) (xB0 : Nat) (sB : Nat → Nat → Int32) (iB : Nat → Int32) (iM : Nat → Int32) (sM : Nat → Nat → Int32) (iC : Nat → Int32) (tC : Nat → Nat → Int64) (sC : Nat → Nat → Int32) {iB' : Nat → Int32} {iM' : Nat → Int32} {sM' : Nat → Nat → Int32} (hf : f_X0_judge N sB iB iM sM iC tC sC = some (iB', iM', sM')) : CV l G yX0_judge cX0_judge 2 7 [.ref (uB 0), .ref (uM 0)] (gB G uB xB0 (uC 0) sB iB ++ gM G uM (uC 0) iM sM ++ gC G uC iC tC sC) (gB G uB xB0 (uC 0) sB iB' ++ gM G uM (uC 0) iM' sM' ++ gC G uC iC tC sC) := by
  refine CV.of (by decide) (Nat.le_of_ble_eq_true rfl) ?_
  intro p e s m args below meth c A X hA hP hD hS ls hl
  have hl : lv_has ls 2 [(0, .ref (uB 0)), (1, .ref (uM 0))] := hl
  generalize hQ : MQ below (QV G A (gB G uB xB0 (uC 0) sB iB' ++ gM G uM (uC 0) iM' sM' ++ gC G uC iC tC sC)) args s 0 0 A = QQ
  unfold f_X0_judge at hf
  refine lv_aload_n X.hx X.hb dX0_judge_0 rfl (lv_at hl 0 rfl) ?_
  refine lv_iconst (v := 1) X.hx X.hb dX0_judge_1 (by decide) ?_
  refine pf_X0_81 X hP hD hS 0 rfl (by decide) (by decide) (Nat.le_of_ble_eq_true rfl) (wo := (gB G uB xB0 (uC 0) sB (va_up iB 7 1) ++ gM G uM (uC 0) iM sM ++ gC G uC iC tC sC)) rfl dX0_judge_2 (fun H locs hP hD hS => ?_)
  refine lv_aload_n X.hx X.hb dX0_judge_5 rfl (lv_at hl 0 rfl) ?_
  refine lv_iconst (v := 0) X.hx X.hb dX0_judge_6 (by decide) ?_
  refine pf_X0_85 X hP hD hS 0 rfl rfl rfl (Nat.le_of_ble_eq_true rfl) (wo := (gB G uB xB0 (uC 0) sB (va_up (va_up iB 7 1) 8 0) ++ gM G uM (uC 0) iM sM ++ gC G uC iC tC sC)) rfl dX0_judge_7 (fun H locs hP hD hS => ?_)
  refine lv_aload_n X.hx X.hb dX0_judge_10 rfl (lv_at hl 0 rfl) ?_
  refine lv_iconst (v := 0) X.hx X.hb dX0_judge_11 (by decide) ?_
  refine pf_X0_88 X hP hD hS 0 rfl rfl rfl (Nat.le_of_ble_eq_true rfl) (wo := (gB G uB xB0 (uC 0) sB (va_up (va_up (va_up iB 7 1) 8 0) 9 0) ++ gM G uM (uC 0) iM sM ++ gC G uC iC tC sC)) rfl dX0_judge_12 (fun H locs hP hD hS => ?_)
  obtain ⟨K_1, eK_3, hf⟩ := jn_i hf
  have hj_2 : ∀ (iB_4 : Nat → Int32) (iM_5 : Nat → Int32) (sM_6 : Nat → Nat → Int32) (H : Heap) (locs : List Loc) (ls : Array Slot), K_1 (iB_4, iM_5, sM_6) = some (iB', iM', sM') → va_P G.1 vwCl (gB G uB xB0 (uC 0) sB iB_4 ++ gM G uM (uC 0) iM_5 sM_6 ++ gC G uC iC tC sC) H → va_D A (gB G uB xB0 (uC 0) sB iB_4 ++ gM G uM (uC 0) iM_5 sM_6 ++ gC G uC iC tC sC) → va_S A s.heap H locs → lv_has ls 2 [(0, .ref (uB 0)), (1, .ref (uM 0))] → W p l e (RM 7) s m args below meth c H locs 0 0 QQ (F0 m 66 ls []) := by
    intro iB_4 iM_5 sM_6 H locs ls hf hP hD hS hl
    rw [eK_3] at hf
    try dsimp only at hf
    refine lv_aload_n X.hx X.hb dX0_judge_66 rfl (lv_at hl 0 rfl) ?_
    refine lv_aload_n X.hx X.hb dX0_judge_67 rfl (lv_at hl 1 rfl) ?_
    refine gf_X0_95 X hP 5 rfl (v := .int (iM_5 1)) rfl dX0_judge_68 ?_
    refine pf_X0_100 X hP hD hS 0 rfl rfl rfl (Nat.le_of_ble_eq_true rfl) (wo := (gB G uB xB0 (uC 0) sB (va_up iB_4 10 (iM_5 1)) ++ gM G uM (uC 0) iM_5 sM_6 ++ gC G uC iC tC sC)) rfl dX0_judge_71 (fun H locs hP hD hS => ?_)
    refine lv_aload_n X.hx X.hb dX0_judge_74 rfl (lv_at hl 0 rfl) ?_
    refine lv_aload_n X.hx X.hb dX0_judge_75 rfl (lv_at hl 1 rfl) ?_
    obtain ⟨r_7, hc_8, hf⟩ := bd_i hf
    refine r_bvi (gB G uB xB0 (uC 0) sB (va_up iB_4 10 (iM_5 1))) ([] : va_W) (As := []) (rest := [.ref (uB 0)]) X sm_X0_103 (c_X4_fed l G N uM uC iM_5 sM_6 iC tC sC hc_8) hP hD hS hA (by simp only [List.append_assoc, List.append_nil, List.nil_append]) (wo := (gB G uB xB0 (uC 0) sB (va_up iB_4 10 (iM_5 1)) ++ gM G uM (uC 0) iM_5 sM_6 ++ gC G uC iC tC sC)) (by simp only [List.append_assoc, List.append_nil, List.nil_append]) 0 rfl rfl rfl hl.1 (lv_room (Nat.le_of_ble_eq_true rfl)) ⟨Nat.le_of_ble_eq_true rfl, Nat.le_of_ble_eq_true rfl⟩ ⟨Nat.zero_le _, Nat.zero_le _⟩ dX0_judge_76 (fun H locs hP hD hS => ?_)
    refine pf_X0_107 X hP hD hS 0 rfl rfl rfl (Nat.le_of_ble_eq_true rfl) (wo := (gB G uB xB0 (uC 0) sB (va_up (va_up iB_4 10 (iM_5 1)) 11 r_7) ++ gM G uM (uC 0) iM_5 sM_6 ++ gC G uC iC tC sC)) rfl dX0_judge_79 (fun H locs hP hD hS => ?_)
    cases hf
    subst hQ
    exact r_vret X hP hD hS dX0_judge_82
  have hlo_9 : ∀ (k : Nat) (iB_10 : Nat → Int32) (iM_11 : Nat → Int32) (sM_12 : Nat → Nat → Int32) (H : Heap) (locs : List Loc) (ls : Array Slot), f_X0_judge_15 N sB iC tC sC K_1 k iB_10 iM_11 sM_12 = some (iB', iM', sM') → va_P G.1 vwCl (gB G uB xB0 (uC 0) sB iB_10 ++ gM G uM (uC 0) iM_11 sM_12 ++ gC G uC iC tC sC) H → va_D A (gB G uB xB0 (uC 0) sB iB_10 ++ gM G uM (uC 0) iM_11 sM_12 ++ gC G uC iC tC sC) → va_S A s.heap H locs → lv_has ls 2 [(0, .ref (uB 0)), (1, .ref (uM 0))] → W p l e (RM 7) s m args below meth c H locs 0 0 QQ (F0 m 15 ls []) := by
    intro k
    induction k with
    | zero => intro iB_10 iM_11 sM_12 H locs ls hf; exact absurd hf (by intro q; cases q)
    | succ k ih =>
      intro iB_10 iM_11 sM_12 H locs ls hf hP hD hS hl
      unfold f_X0_judge_15 at hf
      refine lv_aload_n X.hx X.hb dX0_judge_15 rfl (lv_at hl 0 rfl) ?_
      refine gf_X0_85 X hP 0 rfl (v := .int (iB_10 8)) rfl dX0_judge_16 ?_
      refine lv_if_ne (tgt := 66) X.hx X.hb dX0_judge_19 (by decide) (fun hc_13 => ?_) (fun hc_13 => ?_)
      · replace hf := if_f hf hc_13
        exact hj_2 _ _ _ _ _ _ hf hP hD hS (lv_sub hl [0, 1] rfl)
      · replace hf := if_t hf hc_13
        refine lv_aload_n X.hx X.hb dX0_judge_22 rfl (lv_at hl 0 rfl) ?_
        refine gf_X0_88 X hP 0 rfl (v := .int (iB_10 9)) rfl dX0_judge_23 ?_
        refine lv_aload_n X.hx X.hb dX0_judge_26 rfl (lv_at hl 0 rfl) ?_
        refine gf_X0_32 X hP 0 rfl (v := .int (iB_10 6)) rfl dX0_judge_27 ?_
        refine lv_icmp_ge (tgt := 66) X.hx X.hb dX0_judge_30 (by decide) (fun hc_14 => ?_) (fun hc_14 => ?_)
        · replace hf := if_t hf hc_14
          exact hj_2 _ _ _ _ _ _ hf hP hD hS (lv_sub hl [0, 1] rfl)
        · replace hf := if_f hf hc_14
          refine lv_aload_n X.hx X.hb dX0_judge_33 rfl (lv_at hl 0 rfl) ?_
          refine lv_aload_n X.hx X.hb dX0_judge_34 rfl (lv_at hl 0 rfl) ?_
          refine lv_aload_n X.hx X.hb dX0_judge_35 rfl (lv_at hl 1 rfl) ?_
          refine lv_aload_n X.hx X.hb dX0_judge_36 rfl (lv_at hl 0 rfl) ?_
          refine gf_X0_88 X hP 0 rfl (v := .int (iB_10 9)) rfl dX0_judge_37 ?_
          obtain ⟨⟨r_15, iM_16, sM_17⟩, hc_18, hf⟩ := bd_i hf
          refine r_wvi (As := [.ref (uM 0), .int (iB_10 9)]) (rest := [.ref (uB 0)]) X sm_X0_91 (c_X0_liveLine l G N uB uM uC xB0 sB iB_10 iM_11 sM_12 iC tC sC (iB_10 9) hc_18) hP hD hS hA 0 rfl rfl rfl hl.1 (lv_room (Nat.le_of_ble_eq_true rfl)) ⟨Nat.le_of_ble_eq_true rfl, Nat.le_of_ble_eq_true rfl⟩ ⟨Nat.zero_le _, Nat.zero_le _⟩ dX0_judge_40 (fun H locs hP hD hS => ?_)
          refine pf_X0_85 X hP hD hS 0 rfl rfl rfl (Nat.le_of_ble_eq_true rfl) (wo := (gB G uB xB0 (uC 0) sB (va_up iB_10 8 r_15) ++ gM G uM (uC 0) iM_16 sM_17 ++ gC G uC iC tC sC)) rfl dX0_judge_43 (fun H locs hP hD hS => ?_)
          refine lv_aload_n X.hx X.hb dX0_judge_46 rfl (lv_at hl 0 rfl) ?_
          refine gf_X0_85 X hP 0 rfl (v := .int r_15) rfl dX0_judge_47 ?_
          refine lv_if_ne (tgt := 15) X.hx X.hb dX0_judge_50 (by decide) (fun hc_19 => ?_) (fun hc_19 => ?_)
          · replace hf := if_f hf hc_19
            exact ih _ _ _ _ _ _ hf hP hD hS (lv_sub hl [0, 1] rfl)
          · replace hf := if_t hf hc_19
            refine lv_aload_n X.hx X.hb dX0_judge_53 rfl (lv_at hl 0 rfl) ?_
            refine lv_dup X.hx X.hb dX0_judge_54 rfl ?_
            refine gf_X0_88 X hP 0 rfl (v := .int (iB_10 9)) rfl dX0_judge_55 ?_
            refine lv_iconst (v := 1) X.hx X.hb dX0_judge_58 (by decide) ?_
            refine lv_iadd X.hx X.hb dX0_judge_59 ?_
            refine pf_X0_88 X hP hD hS 0 rfl rfl rfl (Nat.le_of_ble_eq_true rfl) (wo := (gB G uB xB0 (uC 0) sB (va_up (va_up iB_10 8 r_15) 9 ((iB_10 9) + 1)) ++ gM G uM (uC 0) iM_16 sM_17 ++ gC G uC iC tC sC)) rfl dX0_judge_60 (fun H locs hP hD hS => ?_)
            refine lv_goto (tgt := 15) X.hx X.hb dX0_judge_63 (by decide) ?_
            exact ih _ _ _ _ _ _ hf hP hD hS (lv_sub hl [0, 1] rfl)
  exact hlo_9 N _ _ _ _ _ _ hf hP hD hS (lv_sub hl [0, 1] rfl)

