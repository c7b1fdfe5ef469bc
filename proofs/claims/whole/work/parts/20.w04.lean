def f_X4_passDrawnDays_25 (N : Nat) (iC : Nat → Int32) (tC : Nat → Nat → Int64) (sC : Nat → Nat → Int32) (v1 : Int32) (v3 : Int32) (K_7 : ((Nat → Int32) × (Nat → Nat → Int32)) → Option (Int32 × (Nat → Int32) × (Nat → Nat → Int32))) : Nat → (Nat → Int32) → (Nat → Nat → Int32) → (Int32) → Option (Int32 × (Nat → Int32) × (Nat → Nat → Int32))
  | 0, _, _, _ => none
  | k + 1, iM, sM, v4 => (if (iC 0) ≤ v4 then K_7 (iM, sM) else bd (f_X4_drawAct N iM sM iC tC sC v4) (fun (iM_24, sM_25) => f_X4_passDrawnDays_25 N iC tC sC v1 v3 K_7 k iM_24 sM_25 (v4 + 1)))
def f_X4_passDrawnDays_7 (N : Nat) (iC : Nat → Int32) (tC : Nat → Nat → Int64) (sC : Nat → Nat → Int32) (v1 : Int32) : Nat → (Nat → Int32) → (Nat → Nat → Int32) → (Int32) → Option (Int32 × (Nat → Int32) × (Nat → Nat → Int32))
  | 0, _, _, _ => none
  | k + 1, iM, sM, v3 => (if v1 ≤ v3 then some (v3, iM, sM) else (if (400 : Int32) ≤ (iM 1) then some (v3, iM, sM) else jn (fun (z : (Nat → Int32) × (Nat → Nat → Int32)) => match z with | (iM_32, sM_33) => bd (f_X4_passDay N iM_32 sM_33 iC tC sC) (fun (iM_34, sM_35) => f_X4_passDrawnDays_7 N iC tC sC v1 k iM_34 sM_35 (v3 + 1))) (fun K_29 => f_X4_passDrawnDays_25 N iC tC sC v1 v3 K_29 N iM sM 0)))
def f_X4_passDrawnDays (N : Nat) (iM : Nat → Int32) (sM : Nat → Nat → Int32) (iC : Nat → Int32) (tC : Nat → Nat → Int64) (sC : Nat → Nat → Int32) (p1 : Int32) (p2 : Int32) : Option (Int32 × (Nat → Int32) × (Nat → Nat → Int32)) :=
  f_X4_passDrawnDays_7 N iC tC sC p1 N (va_up iM 12 p2) sM 0
set_option maxHeartbeats 4000000 in
set_option maxRecDepth 100000 in
theorem c_X4_passDrawnDays (l : Launch) (G : GT) (N : Nat) (uM uC : Nat → Nat) (iM : Nat → Int32) (sM : Nat → Nat → Int32) (iC : Nat → Int32) (tC : Nat → Nat → Int64) (sC : Nat → Nat → Int32) (p1 : Int32) (p2 : Int32) {r : Int32} {iM' : Nat → Int32} {sM' : Nat → Nat → Int32} (hf : f_X4_passDrawnDays N iM sM iC tC sC p1 p2 = some (r, iM', sM')) : CI l G yX4_passDrawnDays cX4_passDrawnDays 5 .int 6 [.ref (uM 0), .int p1, .int p2] (gM G uM (uC 0) iM sM ++ gC G uC iC tC sC) r (gM G uM (uC 0) iM' sM' ++ gC G uC iC tC sC) := by
  refine CI.of (by decide) (Nat.le_of_ble_eq_true rfl) ?_
  intro p e s m args below meth c A X hA hP hD hS ls hl
  have hl : lv_has ls 5 [(0, .ref (uM 0)), (1, .int p1), (2, .int p2)] := hl
  generalize hQ : MQ below (QI G A r (gM G uM (uC 0) iM' sM' ++ gC G uC iC tC sC)) args s 0 0 A = QQ
  unfold f_X4_passDrawnDays at hf
  refine lv_aload_n X.hx X.hb dX4_passDrawnDays_0 rfl (lv_at hl 0 rfl) ?_
  refine lv_iload_n X.hx X.hb dX4_passDrawnDays_1 rfl (lv_at hl 2 rfl) ?_
  refine pf_X4_135 X hP hD hS 0 rfl rfl rfl (Nat.le_of_ble_eq_true rfl) (wo := (gM G uM (uC 0) (va_up iM 12 p2) sM ++ gC G uC iC tC sC)) rfl dX4_passDrawnDays_2 (fun H locs hP hD hS => ?_)
  refine lv_iconst (v := 0) X.hx X.hb dX4_passDrawnDays_5 (by decide) ?_
  refine lv_istore_n (lv' := [(3, .int 0), (0, .ref (uM 0)), (1, .int p1), (2, .int p2)]) X.hx X.hb dX4_passDrawnDays_6 rfl hl (by decide) rfl (fun ls hl => ?_)
  have hlo_1 : ∀ (k : Nat) (iM_2 : Nat → Int32) (sM_3 : Nat → Nat → Int32) (v3_4 : Int32) (H : Heap) (locs : List Loc) (ls : Array Slot), f_X4_passDrawnDays_7 N iC tC sC p1 k iM_2 sM_3 v3_4 = some (r, iM', sM') → va_P G.1 vwCl (gM G uM (uC 0) iM_2 sM_3 ++ gC G uC iC tC sC) H → va_D A (gM G uM (uC 0) iM_2 sM_3 ++ gC G uC iC tC sC) → va_S A s.heap H locs → lv_has ls 5 [(0, .ref (uM 0)), (1, .int p1), (3, .int v3_4)] → W p l e (RM 6) s m args below meth c H locs 0 0 QQ (F0 m 7 ls []) := by
    intro k
    induction k with
    | zero => intro iM_2 sM_3 v3_4 H locs ls hf; exact absurd hf (by intro q; cases q)
    | succ k ih =>
      intro iM_2 sM_3 v3_4 H locs ls hf hP hD hS hl
      unfold f_X4_passDrawnDays_7 at hf
      refine lv_iload_n X.hx X.hb dX4_passDrawnDays_7 rfl (lv_at hl 2 rfl) ?_
      refine lv_iload_n X.hx X.hb dX4_passDrawnDays_8 rfl (lv_at hl 1 rfl) ?_
      refine lv_icmp_ge (tgt := 59) X.hx X.hb dX4_passDrawnDays_9 (by decide) (fun hc_5 => ?_) (fun hc_5 => ?_)
      · replace hf := if_t hf hc_5
        refine lv_iload_n X.hx X.hb dX4_passDrawnDays_59 rfl (lv_at hl 2 rfl) ?_
        cases hf
        subst hQ
        exact r_iret X hP hD hS dX4_passDrawnDays_60
      · replace hf := if_f hf hc_5
        refine lv_aload_n X.hx X.hb dX4_passDrawnDays_12 rfl (lv_at hl 0 rfl) ?_
        refine gf_X4_34 X hP 0 rfl (v := .int (iM_2 1)) rfl dX4_passDrawnDays_13 ?_
        refine lv_sipush (v := 400) X.hx X.hb dX4_passDrawnDays_16 (by decide) ?_
        refine lv_icmp_ge (tgt := 59) X.hx X.hb dX4_passDrawnDays_19 (by decide) (fun hc_6 => ?_) (fun hc_6 => ?_)
        · replace hf := if_t hf hc_6
          refine lv_iload_n X.hx X.hb dX4_passDrawnDays_59 rfl (lv_at hl 2 rfl) ?_
          cases hf
          subst hQ
          exact r_iret X hP hD hS dX4_passDrawnDays_60
        · replace hf := if_f hf hc_6
          refine lv_iconst (v := 0) X.hx X.hb dX4_passDrawnDays_22 (by decide) ?_
          refine lv_istore (lv' := [(4, .int 0), (0, .ref (uM 0)), (1, .int p1), (3, .int v3_4)]) X.hx X.hb dX4_passDrawnDays_23 hl (by decide) rfl (fun ls hl => ?_)
          obtain ⟨K_7, eK_9, hf⟩ := jn_i hf
          have hj_8 : ∀ (iM_10 : Nat → Int32) (sM_11 : Nat → Nat → Int32) (H : Heap) (locs : List Loc) (ls : Array Slot), K_7 (iM_10, sM_11) = some (r, iM', sM') → va_P G.1 vwCl (gM G uM (uC 0) iM_10 sM_11 ++ gC G uC iC tC sC) H → va_D A (gM G uM (uC 0) iM_10 sM_11 ++ gC G uC iC tC sC) → va_S A s.heap H locs → lv_has ls 5 [(0, .ref (uM 0)), (1, .int p1), (3, .int v3_4)] → W p l e (RM 6) s m args below meth c H locs 0 0 QQ (F0 m 49 ls []) := by
            intro iM_10 sM_11 H locs ls hf hP hD hS hl
            rw [eK_9] at hf
            try dsimp only at hf
            refine lv_aload_n X.hx X.hb dX4_passDrawnDays_49 rfl (lv_at hl 0 rfl) ?_
            obtain ⟨⟨iM_12, sM_13⟩, hc_14, hf⟩ := bd_i hf
            refine r_wvv (As := []) (rest := []) X sm_X4_132 (c_X4_passDay l G N uM uC iM_10 sM_11 iC tC sC hc_14) hP hD hS hA 0 rfl rfl rfl hl.1 (lv_room (Nat.le_of_ble_eq_true rfl)) ⟨Nat.le_of_ble_eq_true rfl, Nat.le_of_ble_eq_true rfl⟩ ⟨Nat.zero_le _, Nat.zero_le _⟩ dX4_passDrawnDays_50 (fun H locs hP hD hS => ?_)
            refine lv_iinc (v := (v3_4 + 1)) (lv' := [(3, .int (v3_4 + 1)), (0, .ref (uM 0)), (1, .int p1)]) X.hx X.hb dX4_passDrawnDays_53 hl (k := 2) rfl rfl (by decide) rfl (fun ls hl => ?_)
            refine lv_goto (tgt := 7) X.hx X.hb dX4_passDrawnDays_56 (by decide) ?_
            exact ih _ _ _ _ _ _ hf hP hD hS (lv_sub hl [1, 2, 0] rfl)
          have hlo_15 : ∀ (k : Nat) (iM_16 : Nat → Int32) (sM_17 : Nat → Nat → Int32) (v4_18 : Int32) (H : Heap) (locs : List Loc) (ls : Array Slot), f_X4_passDrawnDays_25 N iC tC sC p1 v3_4 K_7 k iM_16 sM_17 v4_18 = some (r, iM', sM') → va_P G.1 vwCl (gM G uM (uC 0) iM_16 sM_17 ++ gC G uC iC tC sC) H → va_D A (gM G uM (uC 0) iM_16 sM_17 ++ gC G uC iC tC sC) → va_S A s.heap H locs → lv_has ls 5 [(0, .ref (uM 0)), (1, .int p1), (3, .int v3_4), (4, .int v4_18)] → W p l e (RM 6) s m args below meth c H locs 0 0 QQ (F0 m 25 ls []) := by
            intro k
            induction k with
            | zero => intro iM_16 sM_17 v4_18 H locs ls hf; exact absurd hf (by intro q; cases q)
            | succ k ih =>
              intro iM_16 sM_17 v4_18 H locs ls hf hP hD hS hl
              unfold f_X4_passDrawnDays_25 at hf
              refine lv_iload X.hx X.hb dX4_passDrawnDays_25 (lv_at hl 3 rfl) ?_
              refine lv_aload_n X.hx X.hb dX4_passDrawnDays_27 rfl (lv_at hl 0 rfl) ?_
              refine gf_X4_30 X hP 0 rfl (v := .ref (uC 0)) rfl dX4_passDrawnDays_28 ?_
              refine gf_X4_97 X hP 7 rfl (v := .int (iC 0)) rfl dX4_passDrawnDays_31 ?_
              refine lv_icmp_ge (tgt := 49) X.hx X.hb dX4_passDrawnDays_34 (by decide) (fun hc_19 => ?_) (fun hc_19 => ?_)
              · replace hf := if_t hf hc_19
                exact hj_8 _ _ _ _ _ hf hP hD hS (lv_sub hl [0, 1, 2] rfl)
              · replace hf := if_f hf hc_19
                refine lv_aload_n X.hx X.hb dX4_passDrawnDays_37 rfl (lv_at hl 0 rfl) ?_
                refine lv_iload X.hx X.hb dX4_passDrawnDays_38 (lv_at hl 3 rfl) ?_
                obtain ⟨⟨iM_20, sM_21⟩, hc_22, hf⟩ := bd_i hf
                refine r_wvv (As := [.int v4_18]) (rest := []) X sm_X4_138 (c_X4_drawAct l G N uM uC iM_16 sM_17 iC tC sC v4_18 hc_22) hP hD hS hA 0 rfl rfl rfl hl.1 (lv_room (Nat.le_of_ble_eq_true rfl)) ⟨Nat.le_of_ble_eq_true rfl, Nat.le_of_ble_eq_true rfl⟩ ⟨Nat.zero_le _, Nat.zero_le _⟩ dX4_passDrawnDays_40 (fun H locs hP hD hS => ?_)
                refine lv_iinc (v := (v4_18 + 1)) (lv' := [(4, .int (v4_18 + 1)), (0, .ref (uM 0)), (1, .int p1), (3, .int v3_4)]) X.hx X.hb dX4_passDrawnDays_43 hl (k := 3) rfl rfl (by decide) rfl (fun ls hl => ?_)
                refine lv_goto (tgt := 25) X.hx X.hb dX4_passDrawnDays_46 (by decide) ?_
                exact ih _ _ _ _ _ _ hf hP hD hS (lv_sub hl [1, 2, 3, 0] rfl)
          exact hlo_15 N _ _ _ _ _ _ hf hP hD hS (lv_sub hl [1, 2, 3, 0] rfl)
  exact hlo_1 N _ _ _ _ _ _ hf hP hD hS (lv_sub hl [1, 2, 0] rfl)

def f_X4_copyFrom (N : Nat) (iM : Nat → Int32) (sM : Nat → Nat → Int32) (iM2 : Nat → Int32) (sM2 : Nat → Nat → Int32) : Option ((Nat → Int32) × (Nat → Nat → Int32)) :=
  nv (va_cpy (sM2 6) (sM 6) 0 0 7) (fun g_1 => nv (va_cpy (sM2 7) (sM 7) 0 0 7) (fun g_2 => nv (va_cpy (sM2 8) (sM 8) 0 0 7) (fun g_3 => nv (va_cpy (sM2 9) (sM 9) 0 0 35) (fun g_4 => nv (va_cpy (sM2 10) (sM 10) 0 0 35) (fun g_5 => nv (va_cpy (sM2 11) (sM 11) 0 0 49) (fun g_6 => some ((va_up (va_up (va_up (va_up (va_up iM 1 (iM2 1)) 2 (iM2 2)) 3 (iM2 3)) 4 (iM2 4)) 5 (iM2 5)), (va_up (va_up (va_up (va_up (va_up (va_up sM 6 g_1) 7 g_2) 8 g_3) 9 g_4) 10 g_5) 11 g_6))))))))
set_option maxHeartbeats 4000000 in
set_option maxRecDepth 100000 in
theorem c_X4_copyFrom (l : Launch) (G : GT) (N : Nat) (uM uM2 : Nat → Nat) (xM0 xM20 : Nat) (iM : Nat → Int32) (sM : Nat → Nat → Int32) (iM2 : Nat → Int32) (sM2 : Nat → Nat → Int32) {iM' : Nat → Int32} {sM' : Nat → Nat → Int32} (hf : f_X4_copyFrom N iM sM iM2 sM2 = some (iM', sM')) : CV l G yX4_copyFrom cX4_copyFrom 2 2 [.ref (uM 0), .ref (uM2 0)] (gM G uM xM0 iM sM ++ gM G uM2 xM20 iM2 sM2) (gM G uM xM0 iM' sM' ++ gM G uM2 xM20 iM2 sM2) := by
  refine CV.of (by decide) (Nat.le_of_ble_eq_true rfl) ?_
  intro p e s m args below meth c A X hA hP hD hS ls hl
  have hl : lv_has ls 2 [(0, .ref (uM 0)), (1, .ref (uM2 0))] := hl
  generalize hQ : MQ below (QV G A (gM G uM xM0 iM' sM' ++ gM G uM2 xM20 iM2 sM2)) args s 0 0 A = QQ
  unfold f_X4_copyFrom at hf
  refine lv_aload_n X.hx X.hb dX4_copyFrom_0 rfl (lv_at hl 0 rfl) ?_
  refine lv_aload_n X.hx X.hb dX4_copyFrom_1 rfl (lv_at hl 1 rfl) ?_
  refine gf_X4_34 X hP 7 rfl (v := .int (iM2 1)) rfl dX4_copyFrom_2 ?_
  refine pf_X4_34 X hP hD hS 0 rfl rfl rfl (Nat.le_of_ble_eq_true rfl) (wo := (gM G uM xM0 (va_up iM 1 (iM2 1)) sM ++ gM G uM2 xM20 iM2 sM2)) rfl dX4_copyFrom_5 (fun H locs hP hD hS => ?_)
  refine lv_aload_n X.hx X.hb dX4_copyFrom_8 rfl (lv_at hl 0 rfl) ?_
  refine lv_aload_n X.hx X.hb dX4_copyFrom_9 rfl (lv_at hl 1 rfl) ?_
  refine gf_X4_62 X hP 7 rfl (v := .int (iM2 2)) rfl dX4_copyFrom_10 ?_
  refine pf_X4_62 X hP hD hS 0 rfl rfl rfl (Nat.le_of_ble_eq_true rfl) (wo := (gM G uM xM0 (va_up (va_up iM 1 (iM2 1)) 2 (iM2 2)) sM ++ gM G uM2 xM20 iM2 sM2)) rfl dX4_copyFrom_13 (fun H locs hP hD hS => ?_)
  refine lv_aload_n X.hx X.hb dX4_copyFrom_16 rfl (lv_at hl 0 rfl) ?_
  refine lv_aload_n X.hx X.hb dX4_copyFrom_17 rfl (lv_at hl 1 rfl) ?_
  refine gf_X4_65 X hP 7 rfl (v := .int (iM2 3)) rfl dX4_copyFrom_18 ?_
  refine pf_X4_65 X hP hD hS 0 rfl rfl rfl (Nat.le_of_ble_eq_true rfl) (wo := (gM G uM xM0 (va_up (va_up (va_up iM 1 (iM2 1)) 2 (iM2 2)) 3 (iM2 3)) sM ++ gM G uM2 xM20 iM2 sM2)) rfl dX4_copyFrom_21 (fun H locs hP hD hS => ?_)
  refine lv_aload_n X.hx X.hb dX4_copyFrom_24 rfl (lv_at hl 0 rfl) ?_
  refine lv_aload_n X.hx X.hb dX4_copyFrom_25 rfl (lv_at hl 1 rfl) ?_
  refine gf_X4_68 X hP 7 rfl (v := .int (iM2 4)) rfl dX4_copyFrom_26 ?_
  refine pf_X4_68 X hP hD hS 0 rfl rfl rfl (Nat.le_of_ble_eq_true rfl) (wo := (gM G uM xM0 (va_up (va_up (va_up (va_up iM 1 (iM2 1)) 2 (iM2 2)) 3 (iM2 3)) 4 (iM2 4)) sM ++ gM G uM2 xM20 iM2 sM2)) rfl dX4_copyFrom_29 (fun H locs hP hD hS => ?_)
  refine lv_aload_n X.hx X.hb dX4_copyFrom_32 rfl (lv_at hl 0 rfl) ?_
  refine lv_aload_n X.hx X.hb dX4_copyFrom_33 rfl (lv_at hl 1 rfl) ?_
  refine gf_X4_38 X hP 7 rfl (v := .int (iM2 5)) rfl dX4_copyFrom_34 ?_
  refine pf_X4_38 X hP hD hS 0 rfl rfl rfl (Nat.le_of_ble_eq_true rfl) (wo := (gM G uM xM0 (va_up (va_up (va_up (va_up (va_up iM 1 (iM2 1)) 2 (iM2 2)) 3 (iM2 3)) 4 (iM2 4)) 5 (iM2 5)) sM ++ gM G uM2 xM20 iM2 sM2)) rfl dX4_copyFrom_37 (fun H locs hP hD hS => ?_)
  refine lv_aload_n X.hx X.hb dX4_copyFrom_40 rfl (lv_at hl 1 rfl) ?_
  refine gf_X4_9 X hP 7 rfl (v := .ref (uM2 7)) rfl dX4_copyFrom_41 ?_
  refine lv_iconst (v := 0) X.hx X.hb dX4_copyFrom_44 (by decide) ?_
  refine lv_aload_n X.hx X.hb dX4_copyFrom_45 rfl (lv_at hl 0 rfl) ?_
  refine gf_X4_9 X hP 0 rfl (v := .ref (uM 7)) rfl dX4_copyFrom_46 ?_
  refine lv_iconst (v := 0) X.hx X.hb dX4_copyFrom_49 (by decide) ?_
  refine lv_bipush (v := 7) X.hx X.hb dX4_copyFrom_50 (by decide) ?_
  obtain ⟨g_1, eg_1, hf⟩ := nv_i hf
  refine r_copyi X tw_506 hP hD hS 8 1 (f := (sM2 6)) (g := (sM 6)) rfl rfl (by decide) (by decide) (by decide) (Nat.le_of_ble_eq_true rfl) (Nat.le_of_ble_eq_true rfl) hl.1 (Nat.le_of_ble_eq_true rfl) (Nat.le_of_ble_eq_true rfl) (wo := (gM G uM xM0 (va_up (va_up (va_up (va_up (va_up iM 1 (iM2 1)) 2 (iM2 2)) 3 (iM2 3)) 4 (iM2 4)) 5 (iM2 5)) (va_up sM 6 g_1) ++ gM G uM2 xM20 iM2 sM2)) (by subst eg_1; rfl) dX4_copyFrom_52 (fun H locs hP hD hS => ?_)
  refine lv_aload_n X.hx X.hb dX4_copyFrom_55 rfl (lv_at hl 1 rfl) ?_
  refine gf_X4_15 X hP 7 rfl (v := .ref (uM2 8)) rfl dX4_copyFrom_56 ?_
  refine lv_iconst (v := 0) X.hx X.hb dX4_copyFrom_59 (by decide) ?_
  refine lv_aload_n X.hx X.hb dX4_copyFrom_60 rfl (lv_at hl 0 rfl) ?_
  refine gf_X4_15 X hP 0 rfl (v := .ref (uM 8)) rfl dX4_copyFrom_61 ?_
  refine lv_iconst (v := 0) X.hx X.hb dX4_copyFrom_64 (by decide) ?_
  refine lv_bipush (v := 7) X.hx X.hb dX4_copyFrom_65 (by decide) ?_
  obtain ⟨g_2, eg_2, hf⟩ := nv_i hf
  refine r_copyi X tw_506 hP hD hS 9 2 (f := (sM2 7)) (g := (sM 7)) rfl rfl (by decide) (by decide) (by decide) (Nat.le_of_ble_eq_true rfl) (Nat.le_of_ble_eq_true rfl) hl.1 (Nat.le_of_ble_eq_true rfl) (Nat.le_of_ble_eq_true rfl) (wo := (gM G uM xM0 (va_up (va_up (va_up (va_up (va_up iM 1 (iM2 1)) 2 (iM2 2)) 3 (iM2 3)) 4 (iM2 4)) 5 (iM2 5)) (va_up (va_up sM 6 g_1) 7 g_2) ++ gM G uM2 xM20 iM2 sM2)) (by subst eg_2; rfl) dX4_copyFrom_67 (fun H locs hP hD hS => ?_)
  refine lv_aload_n X.hx X.hb dX4_copyFrom_70 rfl (lv_at hl 1 rfl) ?_
  refine gf_X4_18 X hP 7 rfl (v := .ref (uM2 9)) rfl dX4_copyFrom_71 ?_
  refine lv_iconst (v := 0) X.hx X.hb dX4_copyFrom_74 (by decide) ?_
  refine lv_aload_n X.hx X.hb dX4_copyFrom_75 rfl (lv_at hl 0 rfl) ?_
  refine gf_X4_18 X hP 0 rfl (v := .ref (uM 9)) rfl dX4_copyFrom_76 ?_
  refine lv_iconst (v := 0) X.hx X.hb dX4_copyFrom_79 (by decide) ?_
  refine lv_bipush (v := 7) X.hx X.hb dX4_copyFrom_80 (by decide) ?_
  obtain ⟨g_3, eg_3, hf⟩ := nv_i hf
  refine r_copyi X tw_506 hP hD hS 10 3 (f := (sM2 8)) (g := (sM 8)) rfl rfl (by decide) (by decide) (by decide) (Nat.le_of_ble_eq_true rfl) (Nat.le_of_ble_eq_true rfl) hl.1 (Nat.le_of_ble_eq_true rfl) (Nat.le_of_ble_eq_true rfl) (wo := (gM G uM xM0 (va_up (va_up (va_up (va_up (va_up iM 1 (iM2 1)) 2 (iM2 2)) 3 (iM2 3)) 4 (iM2 4)) 5 (iM2 5)) (va_up (va_up (va_up sM 6 g_1) 7 g_2) 8 g_3) ++ gM G uM2 xM20 iM2 sM2)) (by subst eg_3; rfl) dX4_copyFrom_82 (fun H locs hP hD hS => ?_)
  refine lv_aload_n X.hx X.hb dX4_copyFrom_85 rfl (lv_at hl 1 rfl) ?_
  refine gf_X4_21 X hP 7 rfl (v := .ref (uM2 10)) rfl dX4_copyFrom_86 ?_
  refine lv_iconst (v := 0) X.hx X.hb dX4_copyFrom_89 (by decide) ?_
  refine lv_aload_n X.hx X.hb dX4_copyFrom_90 rfl (lv_at hl 0 rfl) ?_
  refine gf_X4_21 X hP 0 rfl (v := .ref (uM 10)) rfl dX4_copyFrom_91 ?_
  refine lv_iconst (v := 0) X.hx X.hb dX4_copyFrom_94 (by decide) ?_
  refine lv_bipush (v := 35) X.hx X.hb dX4_copyFrom_95 (by decide) ?_
  obtain ⟨g_4, eg_4, hf⟩ := nv_i hf
  refine r_copyi X tw_506 hP hD hS 11 4 (f := (sM2 9)) (g := (sM 9)) rfl rfl (by decide) (by decide) (by decide) (Nat.le_of_ble_eq_true rfl) (Nat.le_of_ble_eq_true rfl) hl.1 (Nat.le_of_ble_eq_true rfl) (Nat.le_of_ble_eq_true rfl) (wo := (gM G uM xM0 (va_up (va_up (va_up (va_up (va_up iM 1 (iM2 1)) 2 (iM2 2)) 3 (iM2 3)) 4 (iM2 4)) 5 (iM2 5)) (va_up (va_up (va_up (va_up sM 6 g_1) 7 g_2) 8 g_3) 9 g_4) ++ gM G uM2 xM20 iM2 sM2)) (by subst eg_4; rfl) dX4_copyFrom_97 (fun H locs hP hD hS => ?_)
  refine lv_aload_n X.hx X.hb dX4_copyFrom_100 rfl (lv_at hl 1 rfl) ?_
  refine gf_X4_24 X hP 7 rfl (v := .ref (uM2 11)) rfl dX4_copyFrom_101 ?_
  refine lv_iconst (v := 0) X.hx X.hb dX4_copyFrom_104 (by decide) ?_
  refine lv_aload_n X.hx X.hb dX4_copyFrom_105 rfl (lv_at hl 0 rfl) ?_
  refine gf_X4_24 X hP 0 rfl (v := .ref (uM 11)) rfl dX4_copyFrom_106 ?_
  refine lv_iconst (v := 0) X.hx X.hb dX4_copyFrom_109 (by decide) ?_
  refine lv_bipush (v := 35) X.hx X.hb dX4_copyFrom_110 (by decide) ?_
  obtain ⟨g_5, eg_5, hf⟩ := nv_i hf
  refine r_copyi X tw_506 hP hD hS 12 5 (f := (sM2 10)) (g := (sM 10)) rfl rfl (by decide) (by decide) (by decide) (Nat.le_of_ble_eq_true rfl) (Nat.le_of_ble_eq_true rfl) hl.1 (Nat.le_of_ble_eq_true rfl) (Nat.le_of_ble_eq_true rfl) (wo := (gM G uM xM0 (va_up (va_up (va_up (va_up (va_up iM 1 (iM2 1)) 2 (iM2 2)) 3 (iM2 3)) 4 (iM2 4)) 5 (iM2 5)) (va_up (va_up (va_up (va_up (va_up sM 6 g_1) 7 g_2) 8 g_3) 9 g_4) 10 g_5) ++ gM G uM2 xM20 iM2 sM2)) (by subst eg_5; rfl) dX4_copyFrom_112 (fun H locs hP hD hS => ?_)
  refine lv_aload_n X.hx X.hb dX4_copyFrom_115 rfl (lv_at hl 1 rfl) ?_
  refine gf_X4_27 X hP 7 rfl (v := .ref (uM2 12)) rfl dX4_copyFrom_116 ?_
  refine lv_iconst (v := 0) X.hx X.hb dX4_copyFrom_119 (by decide) ?_
  refine lv_aload_n X.hx X.hb dX4_copyFrom_120 rfl (lv_at hl 0 rfl) ?_
  refine gf_X4_27 X hP 0 rfl (v := .ref (uM 12)) rfl dX4_copyFrom_121 ?_
  refine lv_iconst (v := 0) X.hx X.hb dX4_copyFrom_124 (by decide) ?_
  refine lv_bipush (v := 49) X.hx X.hb dX4_copyFrom_125 (by decide) ?_
  obtain ⟨g_6, eg_6, hf⟩ := nv_i hf
  refine r_copyi X tw_506 hP hD hS 13 6 (f := (sM2 11)) (g := (sM 11)) rfl rfl (by decide) (by decide) (by decide) (Nat.le_of_ble_eq_true rfl) (Nat.le_of_ble_eq_true rfl) hl.1 (Nat.le_of_ble_eq_true rfl) (Nat.le_of_ble_eq_true rfl) (wo := (gM G uM xM0 (va_up (va_up (va_up (va_up (va_up iM 1 (iM2 1)) 2 (iM2 2)) 3 (iM2 3)) 4 (iM2 4)) 5 (iM2 5)) (va_up (va_up (va_up (va_up (va_up (va_up sM 6 g_1) 7 g_2) 8 g_3) 9 g_4) 10 g_5) 11 g_6) ++ gM G uM2 xM20 iM2 sM2)) (by subst eg_6; rfl) dX4_copyFrom_127 (fun H locs hP hD hS => ?_)
  cases hf
  subst hQ
  exact r_vret X hP hD hS dX4_copyFrom_130

def f_X9_canReach_15 (N : Nat) (iE : Nat → Int32) (sE : Nat → Nat → Int32) (iM : Nat → Int32) (sM : Nat → Nat → Int32) (iC : Nat → Int32) (tC : Nat → Nat → Int64) (sC : Nat → Nat → Int32) (v1 : Int32) (v2 : Int32) (v4 : Int32) : Nat → (Int32) → (Int32) → Option (Int32)
  | 0, _, _ => none
  | k + 1, v3, v5 => (if (iC 0) ≤ v5 then some v3 else bd (f_X10_has N v2 v5) (fun r_32 => jn (fun (z : (Int32)) => match z with | x3_37 => f_X9_canReach_15 N iE sE iM sM iC tC sC v1 v2 v4 k x3_37 (v5 + 1)) (fun K_34 => jn (fun (z : Unit) => match z with | () => bd (f_X10_has N v2 v5) (fun r_41 => (if r_41 = 0 then K_34 v3 else bd (f_X10_has N v4 v5) (fun r_44 => (if r_44 = 0 then K_34 v3 else bd (f_X10_pairOf N v1 v5) (fun r_47 => ck r_47 49 (nv (v3 + (if (0 : Int32) < ((iC 9) - ((sM 11) (ix r_47))) then ((iC 9) - ((sM 11) (ix r_47))) else 0)) (fun n_50 => K_34 n_50)))))))) (fun K_38 => (if r_32 = 0 then K_38 () else ck v1 7 (bd (f_X10_has N ((sC 5) (ix v1)) v5) (fun r_53 => (if r_53 = 0 then K_38 () else K_34 (v3 + 999)))))))))
def f_X9_canReach (N : Nat) (iE : Nat → Int32) (sE : Nat → Nat → Int32) (iM : Nat → Int32) (sM : Nat → Nat → Int32) (iC : Nat → Int32) (tC : Nat → Nat → Int64) (sC : Nat → Nat → Int32) (p1 : Int32) (p2 : Int32) : Option (Int32) :=
  bd (f_X4_dealable N iM sM iC tC sC p1) (fun r_1 => f_X9_canReach_15 N iE sE iM sM iC tC sC p1 p2 r_1 N 0 0)
set_option maxHeartbeats 4000000 in
set_option maxRecDepth 100000 in
theorem c_X9_canReach (l : Launch) (G : GT) (N : Nat) (uE uM uC : Nat → Nat) (iE : Nat → Int32) (sE : Nat → Nat → Int32) (iM : Nat → Int32) (sM : Nat → Nat → Int32) (iC : Nat → Int32) (tC : Nat → Nat → Int64) (sC : Nat → Nat → Int32) (p1 : Int32) (p2 : Int32) {r : Int32} (hf : f_X9_canReach N iE sE iM sM iC tC sC p1 p2 = some r) : CI l G yX9_canReach cX9_canReach 6 .int 3 [.ref (uE 0), .int p1, .int p2] (gE G uE (uC 0) (uM 0) iE sE ++ gM G uM (uC 0) iM sM ++ gC G uC iC tC sC) r (gE G uE (uC 0) (uM 0) iE sE ++ gM G uM (uC 0) iM sM ++ gC G uC iC tC sC) := by
  refine CI.of (by decide) (Nat.le_of_ble_eq_true rfl) ?_
  intro p e s m args below meth c A X hA hP hD hS ls hl
  have hl : lv_has ls 6 [(0, .ref (uE 0)), (1, .int p1), (2, .int p2)] := hl
  generalize hQ : MQ below (QI G A r (gE G uE (uC 0) (uM 0) iE sE ++ gM G uM (uC 0) iM sM ++ gC G uC iC tC sC)) args s 0 0 A = QQ
  unfold f_X9_canReach at hf
  refine lv_iconst (v := 0) X.hx X.hb dX9_canReach_0 (by decide) ?_
  refine lv_istore_n (lv' := [(3, .int 0), (0, .ref (uE 0)), (1, .int p1), (2, .int p2)]) X.hx X.hb dX9_canReach_1 rfl hl (by decide) rfl (fun ls hl => ?_)
  refine lv_aload_n X.hx X.hb dX9_canReach_2 rfl (lv_at hl 1 rfl) ?_
  refine gf_X9_32 X hP 0 rfl (v := .ref (uM 0)) rfl dX9_canReach_3 ?_
  refine lv_iload_n X.hx X.hb dX9_canReach_6 rfl (lv_at hl 2 rfl) ?_
  obtain ⟨r_1, hc_2, hf⟩ := bd_i hf
  refine r_bvi (gE G uE (uC 0) (uM 0) iE sE) ([] : va_W) (As := [.int p1]) (rest := []) X sm_X9_69 (c_X4_dealable l G N uM uC iM sM iC tC sC p1 hc_2) hP hD hS hA (by simp only [List.append_assoc, List.append_nil, List.nil_append]) (wo := (gE G uE (uC 0) (uM 0) iE sE ++ gM G uM (uC 0) iM sM ++ gC G uC iC tC sC)) (by simp only [List.append_assoc, List.append_nil, List.nil_append]) 0 rfl rfl rfl hl.1 (lv_room (Nat.le_of_ble_eq_true rfl)) ⟨Nat.le_of_ble_eq_true rfl, Nat.le_of_ble_eq_true rfl⟩ ⟨Nat.zero_le _, Nat.zero_le _⟩ dX9_canReach_7 (fun H locs hP hD hS => ?_)
  refine lv_istore (lv' := [(4, .int r_1), (3, .int 0), (0, .ref (uE 0)), (1, .int p1), (2, .int p2)]) X.hx X.hb dX9_canReach_10 hl (by decide) rfl (fun ls hl => ?_)
  refine lv_iconst (v := 0) X.hx X.hb dX9_canReach_12 (by decide) ?_
  refine lv_istore (lv' := [(5, .int 0), (4, .int r_1), (3, .int 0), (0, .ref (uE 0)), (1, .int p1), (2, .int p2)]) X.hx X.hb dX9_canReach_13 hl (by decide) rfl (fun ls hl => ?_)
  have hlo_3 : ∀ (k : Nat) (v3_4 : Int32) (v5_5 : Int32) (H : Heap) (locs : List Loc) (ls : Array Slot), f_X9_canReach_15 N iE sE iM sM iC tC sC p1 p2 r_1 k v3_4 v5_5 = some r → va_P G.1 vwCl (gE G uE (uC 0) (uM 0) iE sE ++ gM G uM (uC 0) iM sM ++ gC G uC iC tC sC) H → va_D A (gE G uE (uC 0) (uM 0) iE sE ++ gM G uM (uC 0) iM sM ++ gC G uC iC tC sC) → va_S A s.heap H locs → lv_has ls 6 [(0, .ref (uE 0)), (1, .int p1), (2, .int p2), (3, .int v3_4), (4, .int r_1), (5, .int v5_5)] → W p l e (RM 3) s m args below meth c H locs 0 0 QQ (F0 m 15 ls []) := by
    intro k
    induction k with
    | zero => intro v3_4 v5_5 H locs ls hf; exact absurd hf (by intro q; cases q)
    | succ k ih =>
      intro v3_4 v5_5 H locs ls hf hP hD hS hl
      unfold f_X9_canReach_15 at hf
      refine lv_iload X.hx X.hb dX9_canReach_15 (lv_at hl 5 rfl) ?_
      refine lv_aload_n X.hx X.hb dX9_canReach_17 rfl (lv_at hl 0 rfl) ?_
      refine gf_X9_28 X hP 0 rfl (v := .ref (uC 0)) rfl dX9_canReach_18 ?_
      refine gf_X9_42 X hP 10 rfl (v := .int (iC 0)) rfl dX9_canReach_21 ?_
      refine lv_icmp_ge (tgt := 116) X.hx X.hb dX9_canReach_24 (by decide) (fun hc_6 => ?_) (fun hc_6 => ?_)
      · replace hf := if_t hf hc_6
        refine lv_iload_n X.hx X.hb dX9_canReach_116 rfl (lv_at hl 3 rfl) ?_
        cases hf
        subst hQ
        exact r_iret X hP hD hS dX9_canReach_117
      · replace hf := if_f hf hc_6
        refine lv_iload_n X.hx X.hb dX9_canReach_27 rfl (lv_at hl 2 rfl) ?_
        refine lv_iload X.hx X.hb dX9_canReach_28 (lv_at hl 5 rfl) ?_
        obtain ⟨r_7, hc_8, hf⟩ := bd_i hf
        refine r_cn0 (As := [.int p2, .int v5_5]) (rest := []) X sm_X9_49 (c_X10_has l G N p2 v5_5 hc_8) hP hD hS hA rfl hl.1 (lv_room (Nat.le_of_ble_eq_true rfl)) ⟨Nat.le_of_ble_eq_true rfl, Nat.le_of_ble_eq_true rfl⟩ ⟨Nat.zero_le _, Nat.zero_le _⟩ dX9_canReach_30 (fun H locs hP hD hS => ?_)
        obtain ⟨K_9, eK_11, hf⟩ := jn_i hf
        have hj_10 : ∀ (x3_12 : Int32) (H : Heap) (locs : List Loc) (ls : Array Slot), K_9 x3_12 = some r → va_P G.1 vwCl (gE G uE (uC 0) (uM 0) iE sE ++ gM G uM (uC 0) iM sM ++ gC G uC iC tC sC) H → va_D A (gE G uE (uC 0) (uM 0) iE sE ++ gM G uM (uC 0) iM sM ++ gC G uC iC tC sC) → va_S A s.heap H locs → lv_has ls 6 [(0, .ref (uE 0)), (1, .int p1), (2, .int p2), (3, .int x3_12), (4, .int r_1), (5, .int v5_5)] → W p l e (RM 3) s m args below meth c H locs 0 0 QQ (F0 m 110 ls []) := by
          intro x3_12 H locs ls hf hP hD hS hl
          rw [eK_11] at hf
          try dsimp only at hf
          refine lv_iinc (v := (v5_5 + 1)) (lv' := [(5, .int (v5_5 + 1)), (0, .ref (uE 0)), (1, .int p1), (2, .int p2), (3, .int x3_12), (4, .int r_1)]) X.hx X.hb dX9_canReach_110 hl (k := 5) rfl rfl (by decide) rfl (fun ls hl => ?_)
          refine lv_goto (tgt := 15) X.hx X.hb dX9_canReach_113 (by decide) ?_
          exact ih _ _ _ _ _ hf hP hD hS (lv_sub hl [1, 2, 3, 4, 5, 0] rfl)
        obtain ⟨K_13, eK_15, hf⟩ := jn_i hf
        have hj_14 : ∀ (H : Heap) (locs : List Loc) (ls : Array Slot), K_13 () = some r → va_P G.1 vwCl (gE G uE (uC 0) (uM 0) iE sE ++ gM G uM (uC 0) iM sM ++ gC G uC iC tC sC) H → va_D A (gE G uE (uC 0) (uM 0) iE sE ++ gM G uM (uC 0) iM sM ++ gC G uC iC tC sC) → va_S A s.heap H locs → lv_has ls 6 [(0, .ref (uE 0)), (1, .int p1), (2, .int p2), (3, .int v3_4), (4, .int r_1), (5, .int v5_5)] → W p l e (RM 3) s m args below meth c H locs 0 0 QQ (F0 m 62 ls []) := by
          intro  H locs ls hf hP hD hS hl
          rw [eK_15] at hf
          try dsimp only at hf
          refine lv_iload_n X.hx X.hb dX9_canReach_62 rfl (lv_at hl 2 rfl) ?_
          refine lv_iload X.hx X.hb dX9_canReach_63 (lv_at hl 5 rfl) ?_
          obtain ⟨r_16, hc_17, hf⟩ := bd_i hf
          refine r_cn0 (As := [.int p2, .int v5_5]) (rest := []) X sm_X9_49 (c_X10_has l G N p2 v5_5 hc_17) hP hD hS hA rfl hl.1 (lv_room (Nat.le_of_ble_eq_true rfl)) ⟨Nat.le_of_ble_eq_true rfl, Nat.le_of_ble_eq_true rfl⟩ ⟨Nat.zero_le _, Nat.zero_le _⟩ dX9_canReach_65 (fun H locs hP hD hS => ?_)
          refine lv_if_eq (tgt := 110) X.hx X.hb dX9_canReach_68 (by decide) (fun hc_18 => ?_) (fun hc_18 => ?_)
          · replace hf := if_t hf hc_18
            exact hj_10 _ _ _ _ hf hP hD hS (lv_sub hl [0, 1, 2, 3, 4, 5] rfl)
          · replace hf := if_f hf hc_18
            refine lv_iload X.hx X.hb dX9_canReach_71 (lv_at hl 4 rfl) ?_
            refine lv_iload X.hx X.hb dX9_canReach_73 (lv_at hl 5 rfl) ?_
            obtain ⟨r_19, hc_20, hf⟩ := bd_i hf
            refine r_cn0 (As := [.int r_1, .int v5_5]) (rest := []) X sm_X9_49 (c_X10_has l G N r_1 v5_5 hc_20) hP hD hS hA rfl hl.1 (lv_room (Nat.le_of_ble_eq_true rfl)) ⟨Nat.le_of_ble_eq_true rfl, Nat.le_of_ble_eq_true rfl⟩ ⟨Nat.zero_le _, Nat.zero_le _⟩ dX9_canReach_75 (fun H locs hP hD hS => ?_)
            refine lv_if_eq (tgt := 110) X.hx X.hb dX9_canReach_78 (by decide) (fun hc_21 => ?_) (fun hc_21 => ?_)
            · replace hf := if_t hf hc_21
              exact hj_10 _ _ _ _ hf hP hD hS (lv_sub hl [0, 1, 2, 3, 4, 5] rfl)
            · replace hf := if_f hf hc_21
              refine lv_iload_n X.hx X.hb dX9_canReach_81 rfl (lv_at hl 3 rfl) ?_
              refine lv_iconst (v := 0) X.hx X.hb dX9_canReach_82 (by decide) ?_
              refine lv_aload_n X.hx X.hb dX9_canReach_83 rfl (lv_at hl 0 rfl) ?_
              refine gf_X9_28 X hP 0 rfl (v := .ref (uC 0)) rfl dX9_canReach_84 ?_
              refine gf_X9_76 X hP 10 rfl (v := .int (iC 9)) rfl dX9_canReach_87 ?_
              refine lv_aload_n X.hx X.hb dX9_canReach_90 rfl (lv_at hl 0 rfl) ?_
              refine gf_X9_32 X hP 0 rfl (v := .ref (uM 0)) rfl dX9_canReach_91 ?_
              refine gf_X9_79 X hP 3 rfl (v := .ref (uM 12)) rfl dX9_canReach_94 ?_
              refine lv_iload_n X.hx X.hb dX9_canReach_97 rfl (lv_at hl 1 rfl) ?_
              refine lv_iload X.hx X.hb dX9_canReach_98 (lv_at hl 5 rfl) ?_
              obtain ⟨r_22, hc_23, hf⟩ := bd_i hf
              refine r_cn0 (As := [.int p1, .int v5_5]) (rest := [.ref (uM 12), .int (iC 9), .int 0, .int v3_4]) X sm_X9_81 (c_X10_pairOf l G N p1 v5_5 hc_23) hP hD hS hA rfl hl.1 (lv_room (Nat.le_of_ble_eq_true rfl)) ⟨Nat.le_of_ble_eq_true rfl, Nat.le_of_ble_eq_true rfl⟩ ⟨Nat.zero_le _, Nat.zero_le _⟩ dX9_canReach_100 (fun H locs hP hD hS => ?_)
              obtain ⟨hi_24, hf⟩ := ck_i hf
              refine r_iald X hP 9 (f := (sM 11)) rfl hi_24 dX9_canReach_103 ?_
              refine lv_isub X.hx X.hb dX9_canReach_104 ?_
              refine r_mmax X tw_878 hl.1 (Nat.le_of_ble_eq_true rfl) (Nat.le_of_ble_eq_true rfl) (Nat.zero_le _) (Nat.zero_le _) dX9_canReach_105 ?_
              refine lv_iadd X.hx X.hb dX9_canReach_108 ?_
              obtain ⟨n_25, en_25, hf⟩ := nv_i hf
              refine r_nm en_25 ?_
              refine lv_istore_n (lv' := [(3, .int n_25), (0, .ref (uE 0)), (1, .int p1), (2, .int p2), (4, .int r_1), (5, .int v5_5)]) X.hx X.hb dX9_canReach_109 rfl hl (by decide) rfl (fun ls hl => ?_)
              exact hj_10 _ _ _ _ hf hP hD hS (lv_sub hl [1, 2, 3, 0, 4, 5] rfl)
        refine lv_if_eq (tgt := 62) X.hx X.hb dX9_canReach_33 (by decide) (fun hc_26 => ?_) (fun hc_26 => ?_)
        · replace hf := if_t hf hc_26
          exact hj_14 _ _ _ hf hP hD hS (lv_sub hl [0, 1, 2, 3, 4, 5] rfl)
        · replace hf := if_f hf hc_26
          refine lv_aload_n X.hx X.hb dX9_canReach_36 rfl (lv_at hl 0 rfl) ?_
          refine gf_X9_28 X hP 0 rfl (v := .ref (uC 0)) rfl dX9_canReach_37 ?_
          refine gf_X9_73 X hP 10 rfl (v := .ref (uC 6)) rfl dX9_canReach_40 ?_
          refine lv_iload_n X.hx X.hb dX9_canReach_43 rfl (lv_at hl 1 rfl) ?_
          obtain ⟨hi_27, hf⟩ := ck_i hf
          refine r_iald X hP 14 (f := (sC 5)) rfl hi_27 dX9_canReach_44 ?_
          refine lv_iload X.hx X.hb dX9_canReach_45 (lv_at hl 5 rfl) ?_
          obtain ⟨r_28, hc_29, hf⟩ := bd_i hf
          refine r_cn0 (As := [.int ((sC 5) (ix p1)), .int v5_5]) (rest := []) X sm_X9_49 (c_X10_has l G N ((sC 5) (ix p1)) v5_5 hc_29) hP hD hS hA rfl hl.1 (lv_room (Nat.le_of_ble_eq_true rfl)) ⟨Nat.le_of_ble_eq_true rfl, Nat.le_of_ble_eq_true rfl⟩ ⟨Nat.zero_le _, Nat.zero_le _⟩ dX9_canReach_47 (fun H locs hP hD hS => ?_)
          refine lv_if_eq (tgt := 62) X.hx X.hb dX9_canReach_50 (by decide) (fun hc_30 => ?_) (fun hc_30 => ?_)
          · replace hf := if_t hf hc_30
            exact hj_14 _ _ _ hf hP hD hS (lv_sub hl [0, 1, 2, 3, 4, 5] rfl)
          · replace hf := if_f hf hc_30
            refine lv_iincW (v := (v3_4 + 999)) (lv' := [(3, .int (v3_4 + 999)), (0, .ref (uE 0)), (1, .int p1), (2, .int p2), (4, .int r_1), (5, .int v5_5)]) X.hx X.hb dX9_canReach_53 hl (k := 3) rfl rfl (by decide) rfl (fun ls hl => ?_)
            refine lv_goto (tgt := 110) X.hx X.hb dX9_canReach_59 (by decide) ?_
            exact hj_10 _ _ _ _ hf hP hD hS (lv_sub hl [1, 2, 3, 0, 4, 5] rfl)
  exact hlo_3 N _ _ _ _ _ hf hP hD hS (lv_sub hl [3, 4, 5, 2, 1, 0] rfl)

def f_X9_mostOf_27 (N : Nat) (iE : Nat → Int32) (sE : Nat → Nat → Int32) (iM : Nat → Int32) (sM : Nat → Nat → Int32) (iC : Nat → Int32) (tC : Nat → Nat → Int64) (sC : Nat → Nat → Int32) (v1 : Int32) (v2 : Int32) (v3 : Int32) (v4 : Int32) (K_7 : ((Int32)) → Option (Int32)) : Nat → (Int32) → (Int32) → Option (Int32)
  | 0, _, _ => none
  | k + 1, v5, v6 => (if (iC 0) ≤ v6 then K_7 v5 else bd (f_X10_cellOf N v6 v1) (fun r_38 => bd (f_X10_has N v4 v6) (fun r_40 => jn (fun (z : (Int32)) => match z with | x5_45 => ck r_38 35 (jn (fun (z : (Int32)) => match z with | x5_50 => f_X9_mostOf_27 N iE sE iM sM iC tC sC v1 v2 v3 v4 K_7 k x5_50 (v6 + 1)) (fun K_47 => (if ((sM 10) (ix r_38)) ≤ 0 then K_47 x5_45 else ck r_38 35 (bd (f_X9_canReach N iE sE iM sM iC tC sC v6 v4) (fun r_53 => nv (x5_45 + (if r_53 < ((sM 10) (ix r_38)) then r_53 else ((sM 10) (ix r_38)))) (fun n_55 => K_47 n_55))))))) (fun K_42 => (if r_40 = 0 then ck r_38 35 (nv (v5 + ((sM 9) (ix r_38))) (fun n_58 => K_42 n_58)) else K_42 v5)))))
def f_X9_mostOf_15 (N : Nat) (iE : Nat → Int32) (sE : Nat → Nat → Int32) (iM : Nat → Int32) (sM : Nat → Nat → Int32) (iC : Nat → Int32) (tC : Nat → Nat → Int64) (sC : Nat → Nat → Int32) (v1 : Int32) (v3 : Int32) : Nat → (Int32) → (Int32) → Option (Int32)
  | 0, _, _ => none
  | k + 1, v2, v4 => (if v3 < v4 then some v2 else jn (fun (z : (Int32)) => match z with | x5_63 => nv (if x5_63 < v2 then x5_63 else v2) (fun n_64 => f_X9_mostOf_15 N iE sE iM sM iC tC sC v1 v3 k n_64 (v4 + 1))) (fun K_60 => f_X9_mostOf_27 N iE sE iM sM iC tC sC v1 v2 v3 v4 K_60 N 0 0))
def f_X9_mostOf (N : Nat) (iE : Nat → Int32) (sE : Nat → Nat → Int32) (iM : Nat → Int32) (sM : Nat → Nat → Int32) (iC : Nat → Int32) (tC : Nat → Nat → Int64) (sC : Nat → Nat → Int32) (p1 : Int32) : Option (Int32) :=
  bd (f_X1_everyone N iC tC sC) (fun r_1 => f_X9_mostOf_15 N iE sE iM sM iC tC sC p1 r_1 N 999 0)
set_option maxHeartbeats 4000000 in
set_option maxRecDepth 100000 in
theorem c_X9_mostOf (l : Launch) (G : GT) (N : Nat) (uE uM uC : Nat → Nat) (iE : Nat → Int32) (sE : Nat → Nat → Int32) (iM : Nat → Int32) (sM : Nat → Nat → Int32) (iC : Nat → Int32) (tC : Nat → Nat → Int64) (sC : Nat → Nat → Int32) (p1 : Int32) {r : Int32} (hf : f_X9_mostOf N iE sE iM sM iC tC sC p1 = some r) : CI l G yX9_mostOf cX9_mostOf 8 .int 4 [.ref (uE 0), .int p1] (gE G uE (uC 0) (uM 0) iE sE ++ gM G uM (uC 0) iM sM ++ gC G uC iC tC sC) r (gE G uE (uC 0) (uM 0) iE sE ++ gM G uM (uC 0) iM sM ++ gC G uC iC tC sC) := by
  refine CI.of (by decide) (Nat.le_of_ble_eq_true rfl) ?_
  intro p e s m args below meth c A X hA hP hD hS ls hl
  have hl : lv_has ls 8 [(0, .ref (uE 0)), (1, .int p1)] := hl
  generalize hQ : MQ below (QI G A r (gE G uE (uC 0) (uM 0) iE sE ++ gM G uM (uC 0) iM sM ++ gC G uC iC tC sC)) args s 0 0 A = QQ
  unfold f_X9_mostOf at hf
  refine lv_sipush (v := 999) X.hx X.hb dX9_mostOf_0 (by decide) ?_
  refine lv_istore_n (lv' := [(2, .int 999), (0, .ref (uE 0)), (1, .int p1)]) X.hx X.hb dX9_mostOf_3 rfl hl (by decide) rfl (fun ls hl => ?_)
  refine lv_aload_n X.hx X.hb dX9_mostOf_4 rfl (lv_at hl 1 rfl) ?_
  refine gf_X9_28 X hP 0 rfl (v := .ref (uC 0)) rfl dX9_mostOf_5 ?_
  obtain ⟨r_1, hc_2, hf⟩ := bd_i hf
  refine r_bvi (gE G uE (uC 0) (uM 0) iE sE ++ gM G uM (uC 0) iM sM) ([] : va_W) (As := []) (rest := []) X sm_X9_36 (c_X1_everyone l G N uC iC tC sC hc_2) hP hD hS hA (by simp only [List.append_assoc, List.append_nil, List.nil_append]) (wo := (gE G uE (uC 0) (uM 0) iE sE ++ gM G uM (uC 0) iM sM ++ gC G uC iC tC sC)) (by simp only [List.append_assoc, List.append_nil, List.nil_append]) 0 rfl rfl rfl hl.1 (lv_room (Nat.le_of_ble_eq_true rfl)) ⟨Nat.le_of_ble_eq_true rfl, Nat.le_of_ble_eq_true rfl⟩ ⟨Nat.zero_le _, Nat.zero_le _⟩ dX9_mostOf_8 (fun H locs hP hD hS => ?_)
  refine lv_istore_n (lv' := [(3, .int r_1), (2, .int 999), (0, .ref (uE 0)), (1, .int p1)]) X.hx X.hb dX9_mostOf_11 rfl hl (by decide) rfl (fun ls hl => ?_)
  refine lv_iconst (v := 0) X.hx X.hb dX9_mostOf_12 (by decide) ?_
  refine lv_istore (lv' := [(4, .int 0), (3, .int r_1), (2, .int 999), (0, .ref (uE 0)), (1, .int p1)]) X.hx X.hb dX9_mostOf_13 hl (by decide) rfl (fun ls hl => ?_)
  have hlo_3 : ∀ (k : Nat) (v2_4 : Int32) (v4_5 : Int32) (H : Heap) (locs : List Loc) (ls : Array Slot), f_X9_mostOf_15 N iE sE iM sM iC tC sC p1 r_1 k v2_4 v4_5 = some r → va_P G.1 vwCl (gE G uE (uC 0) (uM 0) iE sE ++ gM G uM (uC 0) iM sM ++ gC G uC iC tC sC) H → va_D A (gE G uE (uC 0) (uM 0) iE sE ++ gM G uM (uC 0) iM sM ++ gC G uC iC tC sC) → va_S A s.heap H locs → lv_has ls 8 [(0, .ref (uE 0)), (1, .int p1), (2, .int v2_4), (3, .int r_1), (4, .int v4_5)] → W p l e (RM 4) s m args below meth c H locs 0 0 QQ (F0 m 15 ls []) := by
    intro k
    induction k with
    | zero => intro v2_4 v4_5 H locs ls hf; exact absurd hf (by intro q; cases q)
    | succ k ih =>
      intro v2_4 v4_5 H locs ls hf hP hD hS hl
      unfold f_X9_mostOf_15 at hf
      refine lv_iload X.hx X.hb dX9_mostOf_15 (lv_at hl 4 rfl) ?_
      refine lv_iload_n X.hx X.hb dX9_mostOf_17 rfl (lv_at hl 3 rfl) ?_
      refine lv_icmp_gt (tgt := 130) X.hx X.hb dX9_mostOf_18 (by decide) (fun hc_6 => ?_) (fun hc_6 => ?_)
      · replace hf := if_t hf hc_6
        refine lv_iload_n X.hx X.hb dX9_mostOf_130 rfl (lv_at hl 2 rfl) ?_
        cases hf
        subst hQ
        exact r_iret X hP hD hS dX9_mostOf_131
      · replace hf := if_f hf hc_6
        refine lv_iconst (v := 0) X.hx X.hb dX9_mostOf_21 (by decide) ?_
        refine lv_istore (lv' := [(5, .int 0), (0, .ref (uE 0)), (1, .int p1), (2, .int v2_4), (3, .int r_1), (4, .int v4_5)]) X.hx X.hb dX9_mostOf_22 hl (by decide) rfl (fun ls hl => ?_)
        refine lv_iconst (v := 0) X.hx X.hb dX9_mostOf_24 (by decide) ?_
        refine lv_istore (lv' := [(6, .int 0), (5, .int 0), (0, .ref (uE 0)), (1, .int p1), (2, .int v2_4), (3, .int r_1), (4, .int v4_5)]) X.hx X.hb dX9_mostOf_25 hl (by decide) rfl (fun ls hl => ?_)
        obtain ⟨K_7, eK_9, hf⟩ := jn_i hf
        have hj_8 : ∀ (x5_10 : Int32) (H : Heap) (locs : List Loc) (ls : Array Slot), K_7 x5_10 = some r → va_P G.1 vwCl (gE G uE (uC 0) (uM 0) iE sE ++ gM G uM (uC 0) iM sM ++ gC G uC iC tC sC) H → va_D A (gE G uE (uC 0) (uM 0) iE sE ++ gM G uM (uC 0) iM sM ++ gC G uC iC tC sC) → va_S A s.heap H locs → lv_has ls 8 [(0, .ref (uE 0)), (1, .int p1), (2, .int v2_4), (3, .int r_1), (4, .int v4_5), (5, .int x5_10)] → W p l e (RM 4) s m args below meth c H locs 0 0 QQ (F0 m 117 ls []) := by
          intro x5_10 H locs ls hf hP hD hS hl
          rw [eK_9] at hf
          try dsimp only at hf
          refine lv_iload_n X.hx X.hb dX9_mostOf_117 rfl (lv_at hl 2 rfl) ?_
          refine lv_iload X.hx X.hb dX9_mostOf_118 (lv_at hl 5 rfl) ?_
          refine r_mmin X tw_881 hl.1 (Nat.le_of_ble_eq_true rfl) (Nat.le_of_ble_eq_true rfl) (Nat.zero_le _) (Nat.zero_le _) dX9_mostOf_120 ?_
          obtain ⟨n_11, en_11, hf⟩ := nv_i hf
          refine r_nm en_11 ?_
          refine lv_istore_n (lv' := [(2, .int n_11), (0, .ref (uE 0)), (1, .int p1), (3, .int r_1), (4, .int v4_5), (5, .int x5_10)]) X.hx X.hb dX9_mostOf_123 rfl hl (by decide) rfl (fun ls hl => ?_)
          refine lv_iinc (v := (v4_5 + 1)) (lv' := [(4, .int (v4_5 + 1)), (2, .int n_11), (0, .ref (uE 0)), (1, .int p1), (3, .int r_1), (5, .int x5_10)]) X.hx X.hb dX9_mostOf_124 hl (k := 4) rfl rfl (by decide) rfl (fun ls hl => ?_)
          refine lv_goto (tgt := 15) X.hx X.hb dX9_mostOf_127 (by decide) ?_
          exact ih _ _ _ _ _ hf hP hD hS (lv_sub hl [2, 3, 1, 4, 0] rfl)
        have hlo_12 : ∀ (k : Nat) (v5_13 : Int32) (v6_14 : Int32) (H : Heap) (locs : List Loc) (ls : Array Slot), f_X9_mostOf_27 N iE sE iM sM iC tC sC p1 v2_4 r_1 v4_5 K_7 k v5_13 v6_14 = some r → va_P G.1 vwCl (gE G uE (uC 0) (uM 0) iE sE ++ gM G uM (uC 0) iM sM ++ gC G uC iC tC sC) H → va_D A (gE G uE (uC 0) (uM 0) iE sE ++ gM G uM (uC 0) iM sM ++ gC G uC iC tC sC) → va_S A s.heap H locs → lv_has ls 8 [(0, .ref (uE 0)), (1, .int p1), (2, .int v2_4), (3, .int r_1), (4, .int v4_5), (5, .int v5_13), (6, .int v6_14)] → W p l e (RM 4) s m args below meth c H locs 0 0 QQ (F0 m 27 ls []) := by
          intro k
          induction k with
          | zero => intro v5_13 v6_14 H locs ls hf; exact absurd hf (by intro q; cases q)
          | succ k ih =>
            intro v5_13 v6_14 H locs ls hf hP hD hS hl
            unfold f_X9_mostOf_27 at hf
            refine lv_iload X.hx X.hb dX9_mostOf_27 (lv_at hl 6 rfl) ?_
            refine lv_aload_n X.hx X.hb dX9_mostOf_29 rfl (lv_at hl 0 rfl) ?_
            refine gf_X9_28 X hP 0 rfl (v := .ref (uC 0)) rfl dX9_mostOf_30 ?_
            refine gf_X9_42 X hP 10 rfl (v := .int (iC 0)) rfl dX9_mostOf_33 ?_
            refine lv_icmp_ge (tgt := 117) X.hx X.hb dX9_mostOf_36 (by decide) (fun hc_15 => ?_) (fun hc_15 => ?_)
            · replace hf := if_t hf hc_15
              exact hj_8 _ _ _ _ hf hP hD hS (lv_sub hl [0, 1, 2, 3, 4, 5] rfl)
            · replace hf := if_f hf hc_15
              refine lv_iload X.hx X.hb dX9_mostOf_39 (lv_at hl 6 rfl) ?_
              refine lv_iload_n X.hx X.hb dX9_mostOf_41 rfl (lv_at hl 1 rfl) ?_
              obtain ⟨r_16, hc_17, hf⟩ := bd_i hf
              refine r_cn0 (As := [.int v6_14, .int p1]) (rest := []) X sm_X9_45 (c_X10_cellOf l G N v6_14 p1 hc_17) hP hD hS hA rfl hl.1 (lv_room (Nat.le_of_ble_eq_true rfl)) ⟨Nat.le_of_ble_eq_true rfl, Nat.le_of_ble_eq_true rfl⟩ ⟨Nat.zero_le _, Nat.zero_le _⟩ dX9_mostOf_42 (fun H locs hP hD hS => ?_)
              refine lv_istore (lv' := [(7, .int r_16), (0, .ref (uE 0)), (1, .int p1), (2, .int v2_4), (3, .int r_1), (4, .int v4_5), (5, .int v5_13), (6, .int v6_14)]) X.hx X.hb dX9_mostOf_45 hl (by decide) rfl (fun ls hl => ?_)
              refine lv_iload X.hx X.hb dX9_mostOf_47 (lv_at hl 5 rfl) ?_
              refine lv_iload X.hx X.hb dX9_mostOf_49 (lv_at hl 7 rfl) ?_
              obtain ⟨r_18, hc_19, hf⟩ := bd_i hf
              refine r_cn0 (As := [.int v4_5, .int v6_14]) (rest := []) X sm_X9_49 (c_X10_has l G N v4_5 v6_14 hc_19) hP hD hS hA rfl hl.1 (lv_room (Nat.le_of_ble_eq_true rfl)) ⟨Nat.le_of_ble_eq_true rfl, Nat.le_of_ble_eq_true rfl⟩ ⟨Nat.zero_le _, Nat.zero_le _⟩ dX9_mostOf_51 (fun H locs hP hD hS => ?_)
              obtain ⟨K_20, eK_22, hf⟩ := jn_i hf
              have hj_21 : ∀ (x5_23 : Int32) (H : Heap) (locs : List Loc) (ls : Array Slot), K_20 x5_23 = some r → va_P G.1 vwCl (gE G uE (uC 0) (uM 0) iE sE ++ gM G uM (uC 0) iM sM ++ gC G uC iC tC sC) H → va_D A (gE G uE (uC 0) (uM 0) iE sE ++ gM G uM (uC 0) iM sM ++ gC G uC iC tC sC) → va_S A s.heap H locs → lv_has ls 8 [(0, .ref (uE 0)), (1, .int p1), (2, .int v2_4), (3, .int r_1), (4, .int v4_5), (5, .int x5_23), (6, .int v6_14), (7, .int r_16)] → W p l e (RM 4) s m args below meth c H locs 0 0 QQ (F0 m 72 ls []) := by
                intro x5_23 H locs ls hf hP hD hS hl
                rw [eK_22] at hf
                try dsimp only at hf
                refine lv_aload_n X.hx X.hb dX9_mostOf_72 rfl (lv_at hl 0 rfl) ?_
                refine gf_X9_32 X hP 0 rfl (v := .ref (uM 0)) rfl dX9_mostOf_73 ?_
                refine gf_X9_58 X hP 3 rfl (v := .ref (uM 11)) rfl dX9_mostOf_76 ?_
                refine lv_iload X.hx X.hb dX9_mostOf_79 (lv_at hl 7 rfl) ?_
                obtain ⟨hi_24, hf⟩ := ck_i hf
                refine r_iald X hP 8 (f := (sM 10)) rfl hi_24 dX9_mostOf_81 ?_
                obtain ⟨K_25, eK_27, hf⟩ := jn_i hf
                have hj_26 : ∀ (x5_28 : Int32) (H : Heap) (locs : List Loc) (ls : Array Slot), K_25 x5_28 = some r → va_P G.1 vwCl (gE G uE (uC 0) (uM 0) iE sE ++ gM G uM (uC 0) iM sM ++ gC G uC iC tC sC) H → va_D A (gE G uE (uC 0) (uM 0) iE sE ++ gM G uM (uC 0) iM sM ++ gC G uC iC tC sC) → va_S A s.heap H locs → lv_has ls 8 [(0, .ref (uE 0)), (1, .int p1), (2, .int v2_4), (3, .int r_1), (4, .int v4_5), (5, .int x5_28), (6, .int v6_14)] → W p l e (RM 4) s m args below meth c H locs 0 0 QQ (F0 m 111 ls []) := by
                  intro x5_28 H locs ls hf hP hD hS hl
                  rw [eK_27] at hf
                  try dsimp only at hf
                  refine lv_iinc (v := (v6_14 + 1)) (lv' := [(6, .int (v6_14 + 1)), (0, .ref (uE 0)), (1, .int p1), (2, .int v2_4), (3, .int r_1), (4, .int v4_5), (5, .int x5_28)]) X.hx X.hb dX9_mostOf_111 hl (k := 6) rfl rfl (by decide) rfl (fun ls hl => ?_)
                  refine lv_goto (tgt := 27) X.hx X.hb dX9_mostOf_114 (by decide) ?_
                  exact ih _ _ _ _ _ hf hP hD hS (lv_sub hl [1, 2, 3, 4, 5, 6, 0] rfl)
                refine lv_if_le (tgt := 111) X.hx X.hb dX9_mostOf_82 (by decide) (fun hc_29 => ?_) (fun hc_29 => ?_)
                · replace hf := if_t hf hc_29
                  exact hj_26 _ _ _ _ hf hP hD hS (lv_sub hl [0, 1, 2, 3, 4, 5, 6] rfl)
                · replace hf := if_f hf hc_29
                  refine lv_iload X.hx X.hb dX9_mostOf_85 (lv_at hl 5 rfl) ?_
                  refine lv_aload_n X.hx X.hb dX9_mostOf_87 rfl (lv_at hl 0 rfl) ?_
                  refine gf_X9_32 X hP 0 rfl (v := .ref (uM 0)) rfl dX9_mostOf_88 ?_
                  refine gf_X9_58 X hP 3 rfl (v := .ref (uM 11)) rfl dX9_mostOf_91 ?_
                  refine lv_iload X.hx X.hb dX9_mostOf_94 (lv_at hl 7 rfl) ?_
                  obtain ⟨hi_30, hf⟩ := ck_i hf
                  refine r_iald X hP 8 (f := (sM 10)) rfl hi_30 dX9_mostOf_96 ?_
                  refine lv_aload_n X.hx X.hb dX9_mostOf_97 rfl (lv_at hl 0 rfl) ?_
                  refine lv_iload X.hx X.hb dX9_mostOf_98 (lv_at hl 6 rfl) ?_
                  refine lv_iload X.hx X.hb dX9_mostOf_100 (lv_at hl 4 rfl) ?_
                  obtain ⟨r_31, hc_32, hf⟩ := bd_i hf
                  refine r_wvi (As := [.int v6_14, .int v4_5]) (rest := [.int ((sM 10) (ix r_16)), .int x5_23]) X sm_X9_61 (c_X9_canReach l G N uE uM uC iE sE iM sM iC tC sC v6_14 v4_5 hc_32) hP hD hS hA 0 rfl rfl rfl hl.1 (lv_room (Nat.le_of_ble_eq_true rfl)) ⟨Nat.le_of_ble_eq_true rfl, Nat.le_of_ble_eq_true rfl⟩ ⟨Nat.zero_le _, Nat.zero_le _⟩ dX9_mostOf_102 (fun H locs hP hD hS => ?_)
                  refine r_mmin X tw_881 hl.1 (Nat.le_of_ble_eq_true rfl) (Nat.le_of_ble_eq_true rfl) (Nat.zero_le _) (Nat.zero_le _) dX9_mostOf_105 ?_
                  refine lv_iadd X.hx X.hb dX9_mostOf_108 ?_
                  obtain ⟨n_33, en_33, hf⟩ := nv_i hf
                  refine r_nm en_33 ?_
                  refine lv_istore (lv' := [(5, .int n_33), (0, .ref (uE 0)), (1, .int p1), (2, .int v2_4), (3, .int r_1), (4, .int v4_5), (6, .int v6_14), (7, .int r_16)]) X.hx X.hb dX9_mostOf_109 hl (by decide) rfl (fun ls hl => ?_)
                  exact hj_26 _ _ _ _ hf hP hD hS (lv_sub hl [1, 2, 3, 4, 5, 0, 6] rfl)
              refine lv_if_ne (tgt := 72) X.hx X.hb dX9_mostOf_54 (by decide) (fun hc_34 => ?_) (fun hc_34 => ?_)
              · replace hf := if_f hf hc_34
                exact hj_21 _ _ _ _ hf hP hD hS (lv_sub hl [1, 2, 3, 4, 5, 6, 7, 0] rfl)
              · replace hf := if_t hf hc_34
                refine lv_iload X.hx X.hb dX9_mostOf_57 (lv_at hl 6 rfl) ?_
                refine lv_aload_n X.hx X.hb dX9_mostOf_59 rfl (lv_at hl 1 rfl) ?_
                refine gf_X9_32 X hP 0 rfl (v := .ref (uM 0)) rfl dX9_mostOf_60 ?_
                refine gf_X9_53 X hP 3 rfl (v := .ref (uM 10)) rfl dX9_mostOf_63 ?_
                refine lv_iload X.hx X.hb dX9_mostOf_66 (lv_at hl 0 rfl) ?_
                obtain ⟨hi_35, hf⟩ := ck_i hf
                refine r_iald X hP 7 (f := (sM 9)) rfl hi_35 dX9_mostOf_68 ?_
                refine lv_iadd X.hx X.hb dX9_mostOf_69 ?_
                obtain ⟨n_36, en_36, hf⟩ := nv_i hf
                refine r_nm en_36 ?_
                refine lv_istore (lv' := [(5, .int n_36), (7, .int r_16), (0, .ref (uE 0)), (1, .int p1), (2, .int v2_4), (3, .int r_1), (4, .int v4_5), (6, .int v6_14)]) X.hx X.hb dX9_mostOf_70 hl (by decide) rfl (fun ls hl => ?_)
                exact hj_21 _ _ _ _ hf hP hD hS (lv_sub hl [2, 3, 4, 5, 6, 0, 7, 1] rfl)
        exact hlo_12 N _ _ _ _ _ hf hP hD hS (lv_sub hl [2, 3, 4, 5, 6, 1, 0] rfl)
  exact hlo_3 N _ _ _ _ _ hf hP hD hS (lv_sub hl [3, 4, 2, 1, 0] rfl)

def f_X9_bestToAsk_8 (N : Nat) (iE : Nat → Int32) (sE : Nat → Nat → Int32) (iM : Nat → Int32) (sM : Nat → Nat → Int32) (iC : Nat → Int32) (tC : Nat → Nat → Int64) (sC : Nat → Nat → Int32) (v1 : Int32) : Nat → (Int32) → (Int32) → (Int32) → Option (Int32)
  | 0, _, _, _ => none
  | k + 1, v2, v3, v4 => (if (iC 0) ≤ v4 then some v2 else bd (f_X4_dealable N iM sM iC tC sC v4) (fun r_20 => bd (f_J6_bitCount_0f7a4 N (v1 &&& r_20)) (fun r_22 => bd (f_J6_bitCount_0f7a4 N (v1 &&& (r_20 ^^^ (-1)))) (fun r_24 => nv (if r_22 < r_24 then r_24 else r_22) (fun n_26 => jn (fun (z : (Int32) × (Int32)) => match z with | (x2_30, x3_31) => f_X9_bestToAsk_8 N iE sE iM sM iC tC sC v1 k x2_30 x3_31 (v4 + 1)) (fun K_27 => (if v3 ≤ n_26 then K_27 (v2, v3) else K_27 (v4, n_26))))))))
def f_X9_bestToAsk (N : Nat) (iE : Nat → Int32) (sE : Nat → Nat → Int32) (iM : Nat → Int32) (sM : Nat → Nat → Int32) (iC : Nat → Int32) (tC : Nat → Nat → Int64) (sC : Nat → Nat → Int32) (p1 : Int32) : Option (Int32) :=
  f_X9_bestToAsk_8 N iE sE iM sM iC tC sC p1 N (-1) 8 0
set_option maxHeartbeats 4000000 in
set_option maxRecDepth 100000 in
theorem c_X9_bestToAsk (l : Launch) (G : GT) (N : Nat) (uE uM uC : Nat → Nat) (iE : Nat → Int32) (sE : Nat → Nat → Int32) (iM : Nat → Int32) (sM : Nat → Nat → Int32) (iC : Nat → Int32) (tC : Nat → Nat → Int64) (sC : Nat → Nat → Int32) (p1 : Int32) {r : Int32} (hf : f_X9_bestToAsk N iE sE iM sM iC tC sC p1 = some r) : CI l G yX9_bestToAsk cX9_bestToAsk 7 .int 3 [.ref (uE 0), .int p1] (gE G uE (uC 0) (uM 0) iE sE ++ gM G uM (uC 0) iM sM ++ gC G uC iC tC sC) r (gE G uE (uC 0) (uM 0) iE sE ++ gM G uM (uC 0) iM sM ++ gC G uC iC tC sC) := by
  refine CI.of (by decide) (Nat.le_of_ble_eq_true rfl) ?_
  intro p e s m args below meth c A X hA hP hD hS ls hl
  have hl : lv_has ls 7 [(0, .ref (uE 0)), (1, .int p1)] := hl
  generalize hQ : MQ below (QI G A r (gE G uE (uC 0) (uM 0) iE sE ++ gM G uM (uC 0) iM sM ++ gC G uC iC tC sC)) args s 0 0 A = QQ
  unfold f_X9_bestToAsk at hf
  refine lv_iconst (v := (-1)) X.hx X.hb dX9_bestToAsk_0 (by decide) ?_
  refine lv_istore_n (lv' := [(2, .int (-1)), (0, .ref (uE 0)), (1, .int p1)]) X.hx X.hb dX9_bestToAsk_1 rfl hl (by decide) rfl (fun ls hl => ?_)
  refine lv_bipush (v := 8) X.hx X.hb dX9_bestToAsk_2 (by decide) ?_
  refine lv_istore_n (lv' := [(3, .int 8), (2, .int (-1)), (0, .ref (uE 0)), (1, .int p1)]) X.hx X.hb dX9_bestToAsk_4 rfl hl (by decide) rfl (fun ls hl => ?_)
  refine lv_iconst (v := 0) X.hx X.hb dX9_bestToAsk_5 (by decide) ?_
  refine lv_istore (lv' := [(4, .int 0), (3, .int 8), (2, .int (-1)), (0, .ref (uE 0)), (1, .int p1)]) X.hx X.hb dX9_bestToAsk_6 hl (by decide) rfl (fun ls hl => ?_)
  have hlo_1 : ∀ (k : Nat) (v2_2 : Int32) (v3_3 : Int32) (v4_4 : Int32) (H : Heap) (locs : List Loc) (ls : Array Slot), f_X9_bestToAsk_8 N iE sE iM sM iC tC sC p1 k v2_2 v3_3 v4_4 = some r → va_P G.1 vwCl (gE G uE (uC 0) (uM 0) iE sE ++ gM G uM (uC 0) iM sM ++ gC G uC iC tC sC) H → va_D A (gE G uE (uC 0) (uM 0) iE sE ++ gM G uM (uC 0) iM sM ++ gC G uC iC tC sC) → va_S A s.heap H locs → lv_has ls 7 [(0, .ref (uE 0)), (1, .int p1), (2, .int v2_2), (3, .int v3_3), (4, .int v4_4)] → W p l e (RM 3) s m args below meth c H locs 0 0 QQ (F0 m 8 ls []) := by
    intro k
    induction k with
    | zero => intro v2_2 v3_3 v4_4 H locs ls hf; exact absurd hf (by intro q; cases q)
    | succ k ih =>
      intro v2_2 v3_3 v4_4 H locs ls hf hP hD hS hl
      unfold f_X9_bestToAsk_8 at hf
      refine lv_iload X.hx X.hb dX9_bestToAsk_8 (lv_at hl 4 rfl) ?_
      refine lv_aload_n X.hx X.hb dX9_bestToAsk_10 rfl (lv_at hl 0 rfl) ?_
      refine gf_X9_28 X hP 0 rfl (v := .ref (uC 0)) rfl dX9_bestToAsk_11 ?_
      refine gf_X9_42 X hP 10 rfl (v := .int (iC 0)) rfl dX9_bestToAsk_14 ?_
      refine lv_icmp_ge (tgt := 70) X.hx X.hb dX9_bestToAsk_17 (by decide) (fun hc_5 => ?_) (fun hc_5 => ?_)
      · replace hf := if_t hf hc_5
        refine lv_iload_n X.hx X.hb dX9_bestToAsk_70 rfl (lv_at hl 2 rfl) ?_
        cases hf
        subst hQ
        exact r_iret X hP hD hS dX9_bestToAsk_71
      · replace hf := if_f hf hc_5
        refine lv_aload_n X.hx X.hb dX9_bestToAsk_20 rfl (lv_at hl 0 rfl) ?_
        refine gf_X9_32 X hP 0 rfl (v := .ref (uM 0)) rfl dX9_bestToAsk_21 ?_
        refine lv_iload X.hx X.hb dX9_bestToAsk_24 (lv_at hl 4 rfl) ?_
        obtain ⟨r_6, hc_7, hf⟩ := bd_i hf
        refine r_bvi (gE G uE (uC 0) (uM 0) iE sE) ([] : va_W) (As := [.int v4_4]) (rest := []) X sm_X9_69 (c_X4_dealable l G N uM uC iM sM iC tC sC v4_4 hc_7) hP hD hS hA (by simp only [List.append_assoc, List.append_nil, List.nil_append]) (wo := (gE G uE (uC 0) (uM 0) iE sE ++ gM G uM (uC 0) iM sM ++ gC G uC iC tC sC)) (by simp only [List.append_assoc, List.append_nil, List.nil_append]) 0 rfl rfl rfl hl.1 (lv_room (Nat.le_of_ble_eq_true rfl)) ⟨Nat.le_of_ble_eq_true rfl, Nat.le_of_ble_eq_true rfl⟩ ⟨Nat.zero_le _, Nat.zero_le _⟩ dX9_bestToAsk_26 (fun H locs hP hD hS => ?_)
        refine lv_istore (lv' := [(5, .int r_6), (0, .ref (uE 0)), (1, .int p1), (2, .int v2_2), (3, .int v3_3), (4, .int v4_4)]) X.hx X.hb dX9_bestToAsk_29 hl (by decide) rfl (fun ls hl => ?_)
        refine lv_iload_n X.hx X.hb dX9_bestToAsk_31 rfl (lv_at hl 2 rfl) ?_
        refine lv_iload X.hx X.hb dX9_bestToAsk_32 (lv_at hl 0 rfl) ?_
        refine lv_iand X.hx X.hb dX9_bestToAsk_34 ?_
        obtain ⟨r_8, hc_9, hf⟩ := bd_i hf
        refine r_cs0 (As := [.int (p1 &&& r_6)]) (rest := []) X sm_X9_102 (c_J6_bitCount_0f7a4 l G N (p1 &&& r_6) hc_9) hP hD hS hA rfl hl.1 (lv_room (Nat.le_of_ble_eq_true rfl)) ⟨Nat.le_of_ble_eq_true rfl, Nat.le_of_ble_eq_true rfl⟩ ⟨Nat.zero_le _, Nat.zero_le _⟩ dX9_bestToAsk_35 (fun H locs hP hD hS => ?_)
        refine lv_iload_n X.hx X.hb dX9_bestToAsk_38 rfl (lv_at hl 2 rfl) ?_
        refine lv_iload X.hx X.hb dX9_bestToAsk_39 (lv_at hl 0 rfl) ?_
        refine lv_iconst (v := (-1)) X.hx X.hb dX9_bestToAsk_41 (by decide) ?_
        refine lv_ixor X.hx X.hb dX9_bestToAsk_42 ?_
        refine lv_iand X.hx X.hb dX9_bestToAsk_43 ?_
        obtain ⟨r_10, hc_11, hf⟩ := bd_i hf
        refine r_cs0 (As := [.int (p1 &&& (r_6 ^^^ (-1)))]) (rest := [.int r_8]) X sm_X9_102 (c_J6_bitCount_0f7a4 l G N (p1 &&& (r_6 ^^^ (-1))) hc_11) hP hD hS hA rfl hl.1 (lv_room (Nat.le_of_ble_eq_true rfl)) ⟨Nat.le_of_ble_eq_true rfl, Nat.le_of_ble_eq_true rfl⟩ ⟨Nat.zero_le _, Nat.zero_le _⟩ dX9_bestToAsk_44 (fun H locs hP hD hS => ?_)
        refine r_mmax X tw_878 hl.1 (Nat.le_of_ble_eq_true rfl) (Nat.le_of_ble_eq_true rfl) (Nat.zero_le _) (Nat.zero_le _) dX9_bestToAsk_47 ?_
        obtain ⟨n_12, en_12, hf⟩ := nv_i hf
        refine r_nm en_12 ?_
        refine lv_istore (lv' := [(6, .int n_12), (5, .int r_6), (0, .ref (uE 0)), (1, .int p1), (2, .int v2_2), (3, .int v3_3), (4, .int v4_4)]) X.hx X.hb dX9_bestToAsk_50 hl (by decide) rfl (fun ls hl => ?_)
        refine lv_iload X.hx X.hb dX9_bestToAsk_52 (lv_at hl 0 rfl) ?_
        refine lv_iload_n X.hx X.hb dX9_bestToAsk_54 rfl (lv_at hl 5 rfl) ?_
        obtain ⟨K_13, eK_15, hf⟩ := jn_i hf
        have hj_14 : ∀ (x2_16 : Int32) (x3_17 : Int32) (H : Heap) (locs : List Loc) (ls : Array Slot), K_13 (x2_16, x3_17) = some r → va_P G.1 vwCl (gE G uE (uC 0) (uM 0) iE sE ++ gM G uM (uC 0) iM sM ++ gC G uC iC tC sC) H → va_D A (gE G uE (uC 0) (uM 0) iE sE ++ gM G uM (uC 0) iM sM ++ gC G uC iC tC sC) → va_S A s.heap H locs → lv_has ls 7 [(0, .ref (uE 0)), (1, .int p1), (2, .int x2_16), (3, .int x3_17), (4, .int v4_4)] → W p l e (RM 3) s m args below meth c H locs 0 0 QQ (F0 m 64 ls []) := by
          intro x2_16 x3_17 H locs ls hf hP hD hS hl
          rw [eK_15] at hf
          try dsimp only at hf
          refine lv_iinc (v := (v4_4 + 1)) (lv' := [(4, .int (v4_4 + 1)), (0, .ref (uE 0)), (1, .int p1), (2, .int x2_16), (3, .int x3_17)]) X.hx X.hb dX9_bestToAsk_64 hl (k := 4) rfl rfl (by decide) rfl (fun ls hl => ?_)
          refine lv_goto (tgt := 8) X.hx X.hb dX9_bestToAsk_67 (by decide) ?_
          exact ih _ _ _ _ _ _ hf hP hD hS (lv_sub hl [1, 2, 3, 4, 0] rfl)
        refine lv_icmp_ge (tgt := 64) X.hx X.hb dX9_bestToAsk_55 (by decide) (fun hc_18 => ?_) (fun hc_18 => ?_)
        · replace hf := if_t hf hc_18
          exact hj_14 _ _ _ _ _ hf hP hD hS (lv_sub hl [2, 3, 4, 5, 6] rfl)
        · replace hf := if_f hf hc_18
          refine lv_iload X.hx X.hb dX9_bestToAsk_58 (lv_at hl 0 rfl) ?_
          refine lv_istore_n (lv' := [(3, .int n_12), (6, .int n_12), (5, .int r_6), (0, .ref (uE 0)), (1, .int p1), (2, .int v2_2), (4, .int v4_4)]) X.hx X.hb dX9_bestToAsk_60 rfl hl (by decide) rfl (fun ls hl => ?_)
          refine lv_iload X.hx X.hb dX9_bestToAsk_61 (lv_at hl 6 rfl) ?_
          refine lv_istore_n (lv' := [(2, .int v4_4), (3, .int n_12), (6, .int n_12), (5, .int r_6), (0, .ref (uE 0)), (1, .int p1), (4, .int v4_4)]) X.hx X.hb dX9_bestToAsk_63 rfl hl (by decide) rfl (fun ls hl => ?_)
          exact hj_14 _ _ _ _ _ hf hP hD hS (lv_sub hl [4, 5, 0, 1, 6] rfl)
  exact hlo_1 N _ _ _ _ _ _ hf hP hD hS (lv_sub hl [3, 4, 2, 1, 0] rfl)

def f_X9_sellersOf_4 (N : Nat) (iE : Nat → Int32) (sE : Nat → Nat → Int32) (iM : Nat → Int32) (sM : Nat → Nat → Int32) (iC : Nat → Int32) (tC : Nat → Nat → Int64) (sC : Nat → Nat → Int32) (v1 : Int32) : Nat → (Int32) → (Int32) → Option (Int32)
  | 0, _, _ => none
  | k + 1, v2, v3 => (if (iC 0) ≤ v3 then some v2 else bd (f_X10_cellOf N v3 v1) (fun r_15 => ck r_15 35 (jn (fun (z : (Int32)) => match z with | x2_21 => f_X9_sellersOf_4 N iE sE iM sM iC tC sC v1 k x2_21 (v3 + 1)) (fun K_18 => (if ((sC 8) (ix r_15)) = (-1) then K_18 v2 else nv (v2 ||| ((1 : Int32) <<< (v3 &&& 31))) (fun n_23 => K_18 n_23))))))
def f_X9_sellersOf (N : Nat) (iE : Nat → Int32) (sE : Nat → Nat → Int32) (iM : Nat → Int32) (sM : Nat → Nat → Int32) (iC : Nat → Int32) (tC : Nat → Nat → Int64) (sC : Nat → Nat → Int32) (p1 : Int32) : Option (Int32) :=
  f_X9_sellersOf_4 N iE sE iM sM iC tC sC p1 N 0 0
set_option maxHeartbeats 4000000 in
set_option maxRecDepth 100000 in
theorem c_X9_sellersOf (l : Launch) (G : GT) (N : Nat) (uE uM uC : Nat → Nat) (iE : Nat → Int32) (sE : Nat → Nat → Int32) (iM : Nat → Int32) (sM : Nat → Nat → Int32) (iC : Nat → Int32) (tC : Nat → Nat → Int64) (sC : Nat → Nat → Int32) (p1 : Int32) {r : Int32} (hf : f_X9_sellersOf N iE sE iM sM iC tC sC p1 = some r) : CI l G yX9_sellersOf cX9_sellersOf 4 .int 2 [.ref (uE 0), .int p1] (gE G uE (uC 0) (uM 0) iE sE ++ gM G uM (uC 0) iM sM ++ gC G uC iC tC sC) r (gE G uE (uC 0) (uM 0) iE sE ++ gM G uM (uC 0) iM sM ++ gC G uC iC tC sC) := by
  refine CI.of (by decide) (Nat.le_of_ble_eq_true rfl) ?_
  intro p e s m args below meth c A X hA hP hD hS ls hl
  have hl : lv_has ls 4 [(0, .ref (uE 0)), (1, .int p1)] := hl
  generalize hQ : MQ below (QI G A r (gE G uE (uC 0) (uM 0) iE sE ++ gM G uM (uC 0) iM sM ++ gC G uC iC tC sC)) args s 0 0 A = QQ
  unfold f_X9_sellersOf at hf
  refine lv_iconst (v := 0) X.hx X.hb dX9_sellersOf_0 (by decide) ?_
  refine lv_istore_n (lv' := [(2, .int 0), (0, .ref (uE 0)), (1, .int p1)]) X.hx X.hb dX9_sellersOf_1 rfl hl (by decide) rfl (fun ls hl => ?_)
  refine lv_iconst (v := 0) X.hx X.hb dX9_sellersOf_2 (by decide) ?_
  refine lv_istore_n (lv' := [(3, .int 0), (2, .int 0), (0, .ref (uE 0)), (1, .int p1)]) X.hx X.hb dX9_sellersOf_3 rfl hl (by decide) rfl (fun ls hl => ?_)
  have hlo_1 : ∀ (k : Nat) (v2_2 : Int32) (v3_3 : Int32) (H : Heap) (locs : List Loc) (ls : Array Slot), f_X9_sellersOf_4 N iE sE iM sM iC tC sC p1 k v2_2 v3_3 = some r → va_P G.1 vwCl (gE G uE (uC 0) (uM 0) iE sE ++ gM G uM (uC 0) iM sM ++ gC G uC iC tC sC) H → va_D A (gE G uE (uC 0) (uM 0) iE sE ++ gM G uM (uC 0) iM sM ++ gC G uC iC tC sC) → va_S A s.heap H locs → lv_has ls 4 [(0, .ref (uE 0)), (1, .int p1), (2, .int v2_2), (3, .int v3_3)] → W p l e (RM 2) s m args below meth c H locs 0 0 QQ (F0 m 4 ls []) := by
    intro k
    induction k with
    | zero => intro v2_2 v3_3 H locs ls hf; exact absurd hf (by intro q; cases q)
    | succ k ih =>
      intro v2_2 v3_3 H locs ls hf hP hD hS hl
      unfold f_X9_sellersOf_4 at hf
      refine lv_iload_n X.hx X.hb dX9_sellersOf_4 rfl (lv_at hl 3 rfl) ?_
      refine lv_aload_n X.hx X.hb dX9_sellersOf_5 rfl (lv_at hl 0 rfl) ?_
      refine gf_X9_28 X hP 0 rfl (v := .ref (uC 0)) rfl dX9_sellersOf_6 ?_
      refine gf_X9_42 X hP 10 rfl (v := .int (iC 0)) rfl dX9_sellersOf_9 ?_
      refine lv_icmp_ge (tgt := 44) X.hx X.hb dX9_sellersOf_12 (by decide) (fun hc_4 => ?_) (fun hc_4 => ?_)
      · replace hf := if_t hf hc_4
        refine lv_iload_n X.hx X.hb dX9_sellersOf_44 rfl (lv_at hl 2 rfl) ?_
        cases hf
        subst hQ
        exact r_iret X hP hD hS dX9_sellersOf_45
      · replace hf := if_f hf hc_4
        refine lv_aload_n X.hx X.hb dX9_sellersOf_15 rfl (lv_at hl 0 rfl) ?_
        refine gf_X9_28 X hP 0 rfl (v := .ref (uC 0)) rfl dX9_sellersOf_16 ?_
        refine gf_X9_113 X hP 10 rfl (v := .ref (uC 9)) rfl dX9_sellersOf_19 ?_
        refine lv_iload_n X.hx X.hb dX9_sellersOf_22 rfl (lv_at hl 3 rfl) ?_
        refine lv_iload_n X.hx X.hb dX9_sellersOf_23 rfl (lv_at hl 1 rfl) ?_
        obtain ⟨r_5, hc_6, hf⟩ := bd_i hf
        refine r_cn0 (As := [.int v3_3, .int p1]) (rest := [.ref (uC 9)]) X sm_X9_45 (c_X10_cellOf l G N v3_3 p1 hc_6) hP hD hS hA rfl hl.1 (lv_room (Nat.le_of_ble_eq_true rfl)) ⟨Nat.le_of_ble_eq_true rfl, Nat.le_of_ble_eq_true rfl⟩ ⟨Nat.zero_le _, Nat.zero_le _⟩ dX9_sellersOf_24 (fun H locs hP hD hS => ?_)
        obtain ⟨hi_7, hf⟩ := ck_i hf
        refine r_iald X hP 17 (f := (sC 8)) rfl hi_7 dX9_sellersOf_27 ?_
        refine lv_iconst (v := (-1)) X.hx X.hb dX9_sellersOf_28 (by decide) ?_
        obtain ⟨K_8, eK_10, hf⟩ := jn_i hf
        have hj_9 : ∀ (x2_11 : Int32) (H : Heap) (locs : List Loc) (ls : Array Slot), K_8 x2_11 = some r → va_P G.1 vwCl (gE G uE (uC 0) (uM 0) iE sE ++ gM G uM (uC 0) iM sM ++ gC G uC iC tC sC) H → va_D A (gE G uE (uC 0) (uM 0) iE sE ++ gM G uM (uC 0) iM sM ++ gC G uC iC tC sC) → va_S A s.heap H locs → lv_has ls 4 [(0, .ref (uE 0)), (1, .int p1), (2, .int x2_11), (3, .int v3_3)] → W p l e (RM 2) s m args below meth c H locs 0 0 QQ (F0 m 38 ls []) := by
          intro x2_11 H locs ls hf hP hD hS hl
          rw [eK_10] at hf
          try dsimp only at hf
          refine lv_iinc (v := (v3_3 + 1)) (lv' := [(3, .int (v3_3 + 1)), (0, .ref (uE 0)), (1, .int p1), (2, .int x2_11)]) X.hx X.hb dX9_sellersOf_38 hl (k := 3) rfl rfl (by decide) rfl (fun ls hl => ?_)
          refine lv_goto (tgt := 4) X.hx X.hb dX9_sellersOf_41 (by decide) ?_
          exact ih _ _ _ _ _ hf hP hD hS (lv_sub hl [1, 2, 3, 0] rfl)
        refine lv_icmp_eq (tgt := 38) X.hx X.hb dX9_sellersOf_29 (by decide) (fun hc_12 => ?_) (fun hc_12 => ?_)
        · replace hf := if_t hf hc_12
          exact hj_9 _ _ _ _ hf hP hD hS (lv_sub hl [0, 1, 2, 3] rfl)
        · replace hf := if_f hf hc_12
          refine lv_iload_n X.hx X.hb dX9_sellersOf_32 rfl (lv_at hl 2 rfl) ?_
          refine lv_iconst (v := 1) X.hx X.hb dX9_sellersOf_33 (by decide) ?_
          refine lv_iload_n X.hx X.hb dX9_sellersOf_34 rfl (lv_at hl 3 rfl) ?_
          refine lv_ishl X.hx X.hb dX9_sellersOf_35 ?_
          refine lv_ior X.hx X.hb dX9_sellersOf_36 ?_
          obtain ⟨n_13, en_13, hf⟩ := nv_i hf
          refine r_nm en_13 ?_
          refine lv_istore_n (lv' := [(2, .int n_13), (0, .ref (uE 0)), (1, .int p1), (3, .int v3_3)]) X.hx X.hb dX9_sellersOf_37 rfl hl (by decide) rfl (fun ls hl => ?_)
          exact hj_9 _ _ _ _ hf hP hD hS (lv_sub hl [1, 2, 0, 3] rfl)
  exact hlo_1 N _ _ _ _ _ hf hP hD hS (lv_sub hl [2, 3, 1, 0] rfl)

def f_X9_areAllServed_2 (N : Nat) (iE : Nat → Int32) (sE : Nat → Nat → Int32) (iM : Nat → Int32) (sM : Nat → Nat → Int32) (iC : Nat → Int32) (tC : Nat → Nat → Int64) (sC : Nat → Nat → Int32) (v1 : Int32) (v2 : Int32) : Nat → (Int32) → Option (Int32)
  | 0, _ => none
  | k + 1, v3 => (if (iC 0) ≤ v3 then some 1 else bd (f_X10_cellOf N v3 v1) (fun r_15 => ck r_15 35 (jn (fun (z : Unit) => match z with | () => f_X9_areAllServed_2 N iE sE iM sM iC tC sC v1 v2 k (v3 + 1)) (fun K_18 => (if ((sC 7) (ix r_15)) ≤ 0 then K_18 () else bd (f_X4_dealable N iM sM iC tC sC v3) (fun r_22 => (if (r_22 &&& v2) = 0 then some 0 else K_18 ())))))))
def f_X9_areAllServed (N : Nat) (iE : Nat → Int32) (sE : Nat → Nat → Int32) (iM : Nat → Int32) (sM : Nat → Nat → Int32) (iC : Nat → Int32) (tC : Nat → Nat → Int64) (sC : Nat → Nat → Int32) (p1 : Int32) (p2 : Int32) : Option (Int32) :=
  f_X9_areAllServed_2 N iE sE iM sM iC tC sC p1 p2 N 0
set_option maxHeartbeats 4000000 in
set_option maxRecDepth 100000 in
theorem c_X9_areAllServed (l : Launch) (G : GT) (N : Nat) (uE uM uC : Nat → Nat) (iE : Nat → Int32) (sE : Nat → Nat → Int32) (iM : Nat → Int32) (sM : Nat → Nat → Int32) (iC : Nat → Int32) (tC : Nat → Nat → Int64) (sC : Nat → Nat → Int32) (p1 : Int32) (p2 : Int32) {r : Int32} (hf : f_X9_areAllServed N iE sE iM sM iC tC sC p1 p2 = some r) : CI l G yX9_areAllServed cX9_areAllServed 4 .boolean 3 [.ref (uE 0), .int p1, .int p2] (gE G uE (uC 0) (uM 0) iE sE ++ gM G uM (uC 0) iM sM ++ gC G uC iC tC sC) r (gE G uE (uC 0) (uM 0) iE sE ++ gM G uM (uC 0) iM sM ++ gC G uC iC tC sC) := by
  refine CI.of (by decide) (Nat.le_of_ble_eq_true rfl) ?_
  intro p e s m args below meth c A X hA hP hD hS ls hl
  have hl : lv_has ls 4 [(0, .ref (uE 0)), (1, .int p1), (2, .int p2)] := hl
  generalize hQ : MQ below (QI G A r (gE G uE (uC 0) (uM 0) iE sE ++ gM G uM (uC 0) iM sM ++ gC G uC iC tC sC)) args s 0 0 A = QQ
  unfold f_X9_areAllServed at hf
  refine lv_iconst (v := 0) X.hx X.hb dX9_areAllServed_0 (by decide) ?_
  refine lv_istore_n (lv' := [(3, .int 0), (0, .ref (uE 0)), (1, .int p1), (2, .int p2)]) X.hx X.hb dX9_areAllServed_1 rfl hl (by decide) rfl (fun ls hl => ?_)
  have hlo_1 : ∀ (k : Nat) (v3_2 : Int32) (H : Heap) (locs : List Loc) (ls : Array Slot), f_X9_areAllServed_2 N iE sE iM sM iC tC sC p1 p2 k v3_2 = some r → va_P G.1 vwCl (gE G uE (uC 0) (uM 0) iE sE ++ gM G uM (uC 0) iM sM ++ gC G uC iC tC sC) H → va_D A (gE G uE (uC 0) (uM 0) iE sE ++ gM G uM (uC 0) iM sM ++ gC G uC iC tC sC) → va_S A s.heap H locs → lv_has ls 4 [(0, .ref (uE 0)), (1, .int p1), (2, .int p2), (3, .int v3_2)] → W p l e (RM 3) s m args below meth c H locs 0 0 QQ (F0 m 2 ls []) := by
    intro k
    induction k with
    | zero => intro v3_2 H locs ls hf; exact absurd hf (by intro q; cases q)
    | succ k ih =>
      intro v3_2 H locs ls hf hP hD hS hl
      unfold f_X9_areAllServed_2 at hf
      refine lv_iload_n X.hx X.hb dX9_areAllServed_2 rfl (lv_at hl 3 rfl) ?_
      refine lv_aload_n X.hx X.hb dX9_areAllServed_3 rfl (lv_at hl 0 rfl) ?_
      refine gf_X9_28 X hP 0 rfl (v := .ref (uC 0)) rfl dX9_areAllServed_4 ?_
      refine gf_X9_42 X hP 10 rfl (v := .int (iC 0)) rfl dX9_areAllServed_7 ?_
      refine lv_icmp_ge (tgt := 50) X.hx X.hb dX9_areAllServed_10 (by decide) (fun hc_3 => ?_) (fun hc_3 => ?_)
      · replace hf := if_t hf hc_3
        refine lv_iconst (v := 1) X.hx X.hb dX9_areAllServed_50 (by decide) ?_
        cases hf
        subst hQ
        exact r_zret X hP hD hS (by decide) dX9_areAllServed_51
      · replace hf := if_f hf hc_3
        refine lv_aload_n X.hx X.hb dX9_areAllServed_13 rfl (lv_at hl 0 rfl) ?_
        refine gf_X9_28 X hP 0 rfl (v := .ref (uC 0)) rfl dX9_areAllServed_14 ?_
        refine gf_X9_116 X hP 10 rfl (v := .ref (uC 8)) rfl dX9_areAllServed_17 ?_
        refine lv_iload_n X.hx X.hb dX9_areAllServed_20 rfl (lv_at hl 3 rfl) ?_
        refine lv_iload_n X.hx X.hb dX9_areAllServed_21 rfl (lv_at hl 1 rfl) ?_
        obtain ⟨r_4, hc_5, hf⟩ := bd_i hf
        refine r_cn0 (As := [.int v3_2, .int p1]) (rest := [.ref (uC 8)]) X sm_X9_45 (c_X10_cellOf l G N v3_2 p1 hc_5) hP hD hS hA rfl hl.1 (lv_room (Nat.le_of_ble_eq_true rfl)) ⟨Nat.le_of_ble_eq_true rfl, Nat.le_of_ble_eq_true rfl⟩ ⟨Nat.zero_le _, Nat.zero_le _⟩ dX9_areAllServed_22 (fun H locs hP hD hS => ?_)
        obtain ⟨hi_6, hf⟩ := ck_i hf
        refine r_iald X hP 16 (f := (sC 7)) rfl hi_6 dX9_areAllServed_25 ?_
        obtain ⟨K_7, eK_9, hf⟩ := jn_i hf
        have hj_8 : ∀ (H : Heap) (locs : List Loc) (ls : Array Slot), K_7 () = some r → va_P G.1 vwCl (gE G uE (uC 0) (uM 0) iE sE ++ gM G uM (uC 0) iM sM ++ gC G uC iC tC sC) H → va_D A (gE G uE (uC 0) (uM 0) iE sE ++ gM G uM (uC 0) iM sM ++ gC G uC iC tC sC) → va_S A s.heap H locs → lv_has ls 4 [(0, .ref (uE 0)), (1, .int p1), (2, .int p2), (3, .int v3_2)] → W p l e (RM 3) s m args below meth c H locs 0 0 QQ (F0 m 44 ls []) := by
          intro  H locs ls hf hP hD hS hl
          rw [eK_9] at hf
          try dsimp only at hf
          refine lv_iinc (v := (v3_2 + 1)) (lv' := [(3, .int (v3_2 + 1)), (0, .ref (uE 0)), (1, .int p1), (2, .int p2)]) X.hx X.hb dX9_areAllServed_44 hl (k := 3) rfl rfl (by decide) rfl (fun ls hl => ?_)
          refine lv_goto (tgt := 2) X.hx X.hb dX9_areAllServed_47 (by decide) ?_
          exact ih _ _ _ _ hf hP hD hS (lv_sub hl [1, 2, 3, 0] rfl)
        refine lv_if_le (tgt := 44) X.hx X.hb dX9_areAllServed_26 (by decide) (fun hc_10 => ?_) (fun hc_10 => ?_)
        · replace hf := if_t hf hc_10
          exact hj_8 _ _ _ hf hP hD hS (lv_sub hl [0, 1, 2, 3] rfl)
        · replace hf := if_f hf hc_10
          refine lv_aload_n X.hx X.hb dX9_areAllServed_29 rfl (lv_at hl 0 rfl) ?_
          refine gf_X9_32 X hP 0 rfl (v := .ref (uM 0)) rfl dX9_areAllServed_30 ?_
          refine lv_iload_n X.hx X.hb dX9_areAllServed_33 rfl (lv_at hl 3 rfl) ?_
          obtain ⟨r_11, hc_12, hf⟩ := bd_i hf
          refine r_bvi (gE G uE (uC 0) (uM 0) iE sE) ([] : va_W) (As := [.int v3_2]) (rest := []) X sm_X9_69 (c_X4_dealable l G N uM uC iM sM iC tC sC v3_2 hc_12) hP hD hS hA (by simp only [List.append_assoc, List.append_nil, List.nil_append]) (wo := (gE G uE (uC 0) (uM 0) iE sE ++ gM G uM (uC 0) iM sM ++ gC G uC iC tC sC)) (by simp only [List.append_assoc, List.append_nil, List.nil_append]) 0 rfl rfl rfl hl.1 (lv_room (Nat.le_of_ble_eq_true rfl)) ⟨Nat.le_of_ble_eq_true rfl, Nat.le_of_ble_eq_true rfl⟩ ⟨Nat.zero_le _, Nat.zero_le _⟩ dX9_areAllServed_34 (fun H locs hP hD hS => ?_)
          refine lv_iload_n X.hx X.hb dX9_areAllServed_37 rfl (lv_at hl 2 rfl) ?_
          refine lv_iand X.hx X.hb dX9_areAllServed_38 ?_
          refine lv_if_ne (tgt := 44) X.hx X.hb dX9_areAllServed_39 (by decide) (fun hc_13 => ?_) (fun hc_13 => ?_)
          · replace hf := if_f hf hc_13
            exact hj_8 _ _ _ hf hP hD hS (lv_sub hl [0, 1, 2, 3] rfl)
          · replace hf := if_t hf hc_13
            refine lv_iconst (v := 0) X.hx X.hb dX9_areAllServed_42 (by decide) ?_
            cases hf
            subst hQ
            exact r_zret X hP hD hS (by decide) dX9_areAllServed_43
  exact hlo_1 N _ _ _ _ hf hP hD hS (lv_sub hl [1, 2, 3, 0] rfl)

def f_X9_fewestSellers_20 (N : Nat) (iE : Nat → Int32) (sE : Nat → Nat → Int32) (iM : Nat → Int32) (sM : Nat → Nat → Int32) (iC : Nat → Int32) (tC : Nat → Nat → Int64) (sC : Nat → Nat → Int32) (v1 : Int32) (v3 : Int32) (v4 : Int32) (K_5 : ((Int32)) → Option (Int32 × (Nat → Int32))) : Nat → (Int32) → (Int32) → Option (Int32 × (Nat → Int32))
  | 0, _, _ => none
  | k + 1, v2, v5 => (if v4 < v5 then K_5 v2 else jn (fun (z : (Int32)) => match z with | y_42 => jn (fun (z : (Int32)) => match z with | x2_46 => f_X9_fewestSellers_20 N iE sE iM sM iC tC sC v1 v3 v4 K_5 k x2_46 (v5 + 1)) (fun K_43 => (if (v5 &&& (v3 ^^^ (-1))) = 0 then (if y_42 = 0 then K_43 v2 else bd (f_X9_areAllServed N iE sE iM sM iC tC sC v1 v5) (fun r_49 => (if r_49 = 0 then K_43 v2 else K_43 v5))) else K_43 v2))) (fun K_39 => jn (fun (z : Unit) => match z with | () => K_39 1) (fun K_52 => (if v2 = (-1) then K_52 () else bd (f_J6_bitCount_0f7a4 N v5) (fun r_56 => bd (f_J6_bitCount_0f7a4 N v2) (fun r_58 => (if r_58 ≤ r_56 then K_39 0 else K_52 ())))))))
def f_X9_fewestSellers (N : Nat) (iE : Nat → Int32) (sE : Nat → Nat → Int32) (iM : Nat → Int32) (sM : Nat → Nat → Int32) (iC : Nat → Int32) (tC : Nat → Nat → Int64) (sC : Nat → Nat → Int32) (p1 : Int32) : Option (Int32 × (Nat → Int32)) :=
  bd (f_X9_sellersOf N iE sE iM sM iC tC sC p1) (fun r_1 => bd (f_X1_everyone N iC tC sC) (fun r_3 => jn (fun (z : (Int32)) => match z with | x2_8 => (if x2_8 = (-1) then some ((-1), iE) else bd (f_J6_bitCount_0f7a4 N x2_8) (fun r_10 => some (r_10, (va_up iE 3 x2_8))))) (fun K_5 => f_X9_fewestSellers_20 N iE sE iM sM iC tC sC p1 r_1 r_3 K_5 N (-1) 0)))
set_option maxHeartbeats 4000000 in
set_option maxRecDepth 100000 in
theorem c_X9_fewestSellers (l : Launch) (G : GT) (N : Nat) (uE uM uC : Nat → Nat) (iE : Nat → Int32) (sE : Nat → Nat → Int32) (iM : Nat → Int32) (sM : Nat → Nat → Int32) (iC : Nat → Int32) (tC : Nat → Nat → Int64) (sC : Nat → Nat → Int32) (p1 : Int32) {r : Int32} {iE' : Nat → Int32} (hf : f_X9_fewestSellers N iE sE iM sM iC tC sC p1 = some (r, iE')) : CI l G yX9_fewestSellers cX9_fewestSellers 7 .int 4 [.ref (uE 0), .int p1] (gE G uE (uC 0) (uM 0) iE sE ++ gM G uM (uC 0) iM sM ++ gC G uC iC tC sC) r (gE G uE (uC 0) (uM 0) iE' sE ++ gM G uM (uC 0) iM sM ++ gC G uC iC tC sC) := by
  refine CI.of (by decide) (Nat.le_of_ble_eq_true rfl) ?_
  intro p e s m args below meth c A X hA hP hD hS ls hl
  have hl : lv_has ls 7 [(0, .ref (uE 0)), (1, .int p1)] := hl
  generalize hQ : MQ below (QI G A r (gE G uE (uC 0) (uM 0) iE' sE ++ gM G uM (uC 0) iM sM ++ gC G uC iC tC sC)) args s 0 0 A = QQ
  unfold f_X9_fewestSellers at hf
  refine lv_iconst (v := (-1)) X.hx X.hb dX9_fewestSellers_0 (by decide) ?_
  refine lv_istore_n (lv' := [(2, .int (-1)), (0, .ref (uE 0)), (1, .int p1)]) X.hx X.hb dX9_fewestSellers_1 rfl hl (by decide) rfl (fun ls hl => ?_)
  refine lv_aload_n X.hx X.hb dX9_fewestSellers_2 rfl (lv_at hl 1 rfl) ?_
  refine lv_iload_n X.hx X.hb dX9_fewestSellers_3 rfl (lv_at hl 2 rfl) ?_
  obtain ⟨r_1, hc_2, hf⟩ := bd_i hf
  refine r_wvi (As := [.int p1]) (rest := []) X sm_X9_107 (c_X9_sellersOf l G N uE uM uC iE sE iM sM iC tC sC p1 hc_2) hP hD hS hA 0 rfl rfl rfl hl.1 (lv_room (Nat.le_of_ble_eq_true rfl)) ⟨Nat.le_of_ble_eq_true rfl, Nat.le_of_ble_eq_true rfl⟩ ⟨Nat.zero_le _, Nat.zero_le _⟩ dX9_fewestSellers_4 (fun H locs hP hD hS => ?_)
  refine lv_istore_n (lv' := [(3, .int r_1), (2, .int (-1)), (0, .ref (uE 0)), (1, .int p1)]) X.hx X.hb dX9_fewestSellers_7 rfl hl (by decide) rfl (fun ls hl => ?_)
  refine lv_aload_n X.hx X.hb dX9_fewestSellers_8 rfl (lv_at hl 2 rfl) ?_
  refine gf_X9_28 X hP 0 rfl (v := .ref (uC 0)) rfl dX9_fewestSellers_9 ?_
  obtain ⟨r_3, hc_4, hf⟩ := bd_i hf
  refine r_bvi (gE G uE (uC 0) (uM 0) iE sE ++ gM G uM (uC 0) iM sM) ([] : va_W) (As := []) (rest := []) X sm_X9_36 (c_X1_everyone l G N uC iC tC sC hc_4) hP hD hS hA (by simp only [List.append_assoc, List.append_nil, List.nil_append]) (wo := (gE G uE (uC 0) (uM 0) iE sE ++ gM G uM (uC 0) iM sM ++ gC G uC iC tC sC)) (by simp only [List.append_assoc, List.append_nil, List.nil_append]) 0 rfl rfl rfl hl.1 (lv_room (Nat.le_of_ble_eq_true rfl)) ⟨Nat.le_of_ble_eq_true rfl, Nat.le_of_ble_eq_true rfl⟩ ⟨Nat.zero_le _, Nat.zero_le _⟩ dX9_fewestSellers_12 (fun H locs hP hD hS => ?_)
  refine lv_istore (lv' := [(4, .int r_3), (3, .int r_1), (2, .int (-1)), (0, .ref (uE 0)), (1, .int p1)]) X.hx X.hb dX9_fewestSellers_15 hl (by decide) rfl (fun ls hl => ?_)
  refine lv_iconst (v := 0) X.hx X.hb dX9_fewestSellers_17 (by decide) ?_
  refine lv_istore (lv' := [(5, .int 0), (4, .int r_3), (3, .int r_1), (2, .int (-1)), (0, .ref (uE 0)), (1, .int p1)]) X.hx X.hb dX9_fewestSellers_18 hl (by decide) rfl (fun ls hl => ?_)
  obtain ⟨K_5, eK_7, hf⟩ := jn_i hf
  have hj_6 : ∀ (x2_8 : Int32) (H : Heap) (locs : List Loc) (ls : Array Slot), K_5 x2_8 = some (r, iE') → va_P G.1 vwCl (gE G uE (uC 0) (uM 0) iE sE ++ gM G uM (uC 0) iM sM ++ gC G uC iC tC sC) H → va_D A (gE G uE (uC 0) (uM 0) iE sE ++ gM G uM (uC 0) iM sM ++ gC G uC iC tC sC) → va_S A s.heap H locs → lv_has ls 7 [(0, .ref (uE 0)), (2, .int x2_8)] → W p l e (RM 4) s m args below meth c H locs 0 0 QQ (F0 m 84 ls []) := by
    intro x2_8 H locs ls hf hP hD hS hl
    rw [eK_7] at hf
    try dsimp only at hf
    refine lv_iload_n X.hx X.hb dX9_fewestSellers_84 rfl (lv_at hl 1 rfl) ?_
    refine lv_iconst (v := (-1)) X.hx X.hb dX9_fewestSellers_85 (by decide) ?_
    refine lv_icmp_ne (tgt := 91) X.hx X.hb dX9_fewestSellers_86 (by decide) (fun hc_9 => ?_) (fun hc_9 => ?_)
    · replace hf := if_f hf hc_9
      refine lv_aload_n X.hx X.hb dX9_fewestSellers_91 rfl (lv_at hl 0 rfl) ?_
      refine lv_iload_n X.hx X.hb dX9_fewestSellers_92 rfl (lv_at hl 1 rfl) ?_
      refine pf_X9_15 X hP hD hS 0 rfl rfl rfl (Nat.le_of_ble_eq_true rfl) (wo := (gE G uE (uC 0) (uM 0) (va_up iE 3 x2_8) sE ++ gM G uM (uC 0) iM sM ++ gC G uC iC tC sC)) rfl dX9_fewestSellers_93 (fun H locs hP hD hS => ?_)
      refine lv_iload_n X.hx X.hb dX9_fewestSellers_96 rfl (lv_at hl 1 rfl) ?_
      obtain ⟨r_10, hc_11, hf⟩ := bd_i hf
      refine r_cs0 (As := [.int x2_8]) (rest := []) X sm_X9_102 (c_J6_bitCount_0f7a4 l G N x2_8 hc_11) hP hD hS hA rfl hl.1 (lv_room (Nat.le_of_ble_eq_true rfl)) ⟨Nat.le_of_ble_eq_true rfl, Nat.le_of_ble_eq_true rfl⟩ ⟨Nat.zero_le _, Nat.zero_le _⟩ dX9_fewestSellers_97 (fun H locs hP hD hS => ?_)
      cases hf
      subst hQ
      exact r_iret X hP hD hS dX9_fewestSellers_100
    · replace hf := if_t hf hc_9
      refine lv_iconst (v := (-1)) X.hx X.hb dX9_fewestSellers_89 (by decide) ?_
      cases hf
      subst hQ
      exact r_iret X hP hD hS dX9_fewestSellers_90
  have hlo_12 : ∀ (k : Nat) (v2_13 : Int32) (v5_14 : Int32) (H : Heap) (locs : List Loc) (ls : Array Slot), f_X9_fewestSellers_20 N iE sE iM sM iC tC sC p1 r_1 r_3 K_5 k v2_13 v5_14 = some (r, iE') → va_P G.1 vwCl (gE G uE (uC 0) (uM 0) iE sE ++ gM G uM (uC 0) iM sM ++ gC G uC iC tC sC) H → va_D A (gE G uE (uC 0) (uM 0) iE sE ++ gM G uM (uC 0) iM sM ++ gC G uC iC tC sC) → va_S A s.heap H locs → lv_has ls 7 [(0, .ref (uE 0)), (1, .int p1), (2, .int v2_13), (3, .int r_1), (4, .int r_3), (5, .int v5_14)] → W p l e (RM 4) s m args below meth c H locs 0 0 QQ (F0 m 20 ls []) := by
    intro k
    induction k with
    | zero => intro v2_13 v5_14 H locs ls hf; exact absurd hf (by intro q; cases q)
    | succ k ih =>
      intro v2_13 v5_14 H locs ls hf hP hD hS hl
      unfold f_X9_fewestSellers_20 at hf
      refine lv_iload X.hx X.hb dX9_fewestSellers_20 (lv_at hl 5 rfl) ?_
      refine lv_iload X.hx X.hb dX9_fewestSellers_22 (lv_at hl 4 rfl) ?_
      refine lv_icmp_gt (tgt := 84) X.hx X.hb dX9_fewestSellers_24 (by decide) (fun hc_15 => ?_) (fun hc_15 => ?_)
      · replace hf := if_t hf hc_15
        exact hj_6 _ _ _ _ hf hP hD hS (lv_sub hl [0, 2] rfl)
      · replace hf := if_f hf hc_15
        refine lv_iload_n X.hx X.hb dX9_fewestSellers_27 rfl (lv_at hl 2 rfl) ?_
        refine lv_iconst (v := (-1)) X.hx X.hb dX9_fewestSellers_28 (by decide) ?_
        obtain ⟨K_16, eK_18, hf⟩ := jn_i hf
        have hj_17 : ∀ (y_19 : Int32) (H : Heap) (locs : List Loc) (ls : Array Slot), K_16 y_19 = some (r, iE') → va_P G.1 vwCl (gE G uE (uC 0) (uM 0) iE sE ++ gM G uM (uC 0) iM sM ++ gC G uC iC tC sC) H → va_D A (gE G uE (uC 0) (uM 0) iE sE ++ gM G uM (uC 0) iM sM ++ gC G uC iC tC sC) → va_S A s.heap H locs → lv_has ls 7 [(0, .ref (uE 0)), (1, .int p1), (2, .int v2_13), (3, .int r_1), (4, .int r_3), (5, .int v5_14)] → W p l e (RM 4) s m args below meth c H locs 0 0 QQ (F0 m 49 ls [.int y_19]) := by
          intro y_19 H locs ls hf hP hD hS hl
          rw [eK_18] at hf
          try dsimp only at hf
          refine lv_istore (lv' := [(6, .int y_19), (0, .ref (uE 0)), (1, .int p1), (2, .int v2_13), (3, .int r_1), (4, .int r_3), (5, .int v5_14)]) X.hx X.hb dX9_fewestSellers_49 hl (by decide) rfl (fun ls hl => ?_)
          refine lv_iload X.hx X.hb dX9_fewestSellers_51 (lv_at hl 6 rfl) ?_
          refine lv_iload_n X.hx X.hb dX9_fewestSellers_53 rfl (lv_at hl 4 rfl) ?_
          refine lv_iconst (v := (-1)) X.hx X.hb dX9_fewestSellers_54 (by decide) ?_
          refine lv_ixor X.hx X.hb dX9_fewestSellers_55 ?_
          refine lv_iand X.hx X.hb dX9_fewestSellers_56 ?_
          obtain ⟨K_20, eK_22, hf⟩ := jn_i hf
          have hj_21 : ∀ (x2_23 : Int32) (H : Heap) (locs : List Loc) (ls : Array Slot), K_20 x2_23 = some (r, iE') → va_P G.1 vwCl (gE G uE (uC 0) (uM 0) iE sE ++ gM G uM (uC 0) iM sM ++ gC G uC iC tC sC) H → va_D A (gE G uE (uC 0) (uM 0) iE sE ++ gM G uM (uC 0) iM sM ++ gC G uC iC tC sC) → va_S A s.heap H locs → lv_has ls 7 [(0, .ref (uE 0)), (1, .int p1), (2, .int x2_23), (3, .int r_1), (4, .int r_3), (5, .int v5_14)] → W p l e (RM 4) s m args below meth c H locs 0 0 QQ (F0 m 78 ls []) := by
            intro x2_23 H locs ls hf hP hD hS hl
            rw [eK_22] at hf
            try dsimp only at hf
            refine lv_iinc (v := (v5_14 + 1)) (lv' := [(5, .int (v5_14 + 1)), (0, .ref (uE 0)), (1, .int p1), (2, .int x2_23), (3, .int r_1), (4, .int r_3)]) X.hx X.hb dX9_fewestSellers_78 hl (k := 5) rfl rfl (by decide) rfl (fun ls hl => ?_)
            refine lv_goto (tgt := 20) X.hx X.hb dX9_fewestSellers_81 (by decide) ?_
            exact ih _ _ _ _ _ hf hP hD hS (lv_sub hl [1, 2, 3, 4, 5, 0] rfl)
          refine lv_if_ne (tgt := 78) X.hx X.hb dX9_fewestSellers_57 (by decide) (fun hc_24 => ?_) (fun hc_24 => ?_)
          · replace hf := if_f hf hc_24
            exact hj_21 _ _ _ _ hf hP hD hS (lv_sub hl [1, 2, 3, 4, 5, 6] rfl)
          · replace hf := if_t hf hc_24
            refine lv_iload X.hx X.hb dX9_fewestSellers_60 (lv_at hl 0 rfl) ?_
            refine lv_if_eq (tgt := 78) X.hx X.hb dX9_fewestSellers_62 (by decide) (fun hc_25 => ?_) (fun hc_25 => ?_)
            · replace hf := if_t hf hc_25
              exact hj_21 _ _ _ _ hf hP hD hS (lv_sub hl [1, 2, 3, 4, 5, 6] rfl)
            · replace hf := if_f hf hc_25
              refine lv_aload_n X.hx X.hb dX9_fewestSellers_65 rfl (lv_at hl 1 rfl) ?_
              refine lv_iload_n X.hx X.hb dX9_fewestSellers_66 rfl (lv_at hl 2 rfl) ?_
              refine lv_iload X.hx X.hb dX9_fewestSellers_67 (lv_at hl 6 rfl) ?_
              obtain ⟨r_26, hc_27, hf⟩ := bd_i hf
              refine r_wvi (As := [.int p1, .int v5_14]) (rest := []) X sm_X9_110 (c_X9_areAllServed l G N uE uM uC iE sE iM sM iC tC sC p1 v5_14 hc_27) hP hD hS hA 0 rfl rfl rfl hl.1 (lv_room (Nat.le_of_ble_eq_true rfl)) ⟨Nat.le_of_ble_eq_true rfl, Nat.le_of_ble_eq_true rfl⟩ ⟨Nat.zero_le _, Nat.zero_le _⟩ dX9_fewestSellers_69 (fun H locs hP hD hS => ?_)
              refine lv_if_eq (tgt := 78) X.hx X.hb dX9_fewestSellers_72 (by decide) (fun hc_28 => ?_) (fun hc_28 => ?_)
              · replace hf := if_t hf hc_28
                exact hj_21 _ _ _ _ hf hP hD hS (lv_sub hl [1, 2, 3, 4, 5, 6] rfl)
              · replace hf := if_f hf hc_28
                refine lv_iload X.hx X.hb dX9_fewestSellers_75 (lv_at hl 6 rfl) ?_
                refine lv_istore_n (lv' := [(2, .int v5_14), (6, .int y_19), (0, .ref (uE 0)), (1, .int p1), (3, .int r_1), (4, .int r_3), (5, .int v5_14)]) X.hx X.hb dX9_fewestSellers_77 rfl hl (by decide) rfl (fun ls hl => ?_)
                exact hj_21 _ _ _ _ hf hP hD hS (lv_sub hl [2, 3, 0, 4, 5, 6] rfl)
        obtain ⟨K_29, eK_31, hf⟩ := jn_i hf
        have hj_30 : ∀ (H : Heap) (locs : List Loc) (ls : Array Slot), K_29 () = some (r, iE') → va_P G.1 vwCl (gE G uE (uC 0) (uM 0) iE sE ++ gM G uM (uC 0) iM sM ++ gC G uC iC tC sC) H → va_D A (gE G uE (uC 0) (uM 0) iE sE ++ gM G uM (uC 0) iM sM ++ gC G uC iC tC sC) → va_S A s.heap H locs → lv_has ls 7 [(0, .ref (uE 0)), (1, .int p1), (2, .int v2_13), (3, .int r_1), (4, .int r_3), (5, .int v5_14)] → W p l e (RM 4) s m args below meth c H locs 0 0 QQ (F0 m 44 ls []) := by
          intro  H locs ls hf hP hD hS hl
          rw [eK_31] at hf
          try dsimp only at hf
          refine lv_iconst (v := 1) X.hx X.hb dX9_fewestSellers_44 (by decide) ?_
          refine lv_goto (tgt := 49) X.hx X.hb dX9_fewestSellers_45 (by decide) ?_
          exact hj_17 _ _ _ _ hf hP hD hS (lv_sub hl [0, 1, 2, 3, 4, 5] rfl)
        refine lv_icmp_eq (tgt := 44) X.hx X.hb dX9_fewestSellers_29 (by decide) (fun hc_32 => ?_) (fun hc_32 => ?_)
        · replace hf := if_t hf hc_32
          exact hj_30 _ _ _ hf hP hD hS (lv_sub hl [0, 1, 2, 3, 4, 5] rfl)
        · replace hf := if_f hf hc_32
          refine lv_iload X.hx X.hb dX9_fewestSellers_32 (lv_at hl 5 rfl) ?_
          obtain ⟨r_33, hc_34, hf⟩ := bd_i hf
          refine r_cs0 (As := [.int v5_14]) (rest := []) X sm_X9_102 (c_J6_bitCount_0f7a4 l G N v5_14 hc_34) hP hD hS hA rfl hl.1 (lv_room (Nat.le_of_ble_eq_true rfl)) ⟨Nat.le_of_ble_eq_true rfl, Nat.le_of_ble_eq_true rfl⟩ ⟨Nat.zero_le _, Nat.zero_le _⟩ dX9_fewestSellers_34 (fun H locs hP hD hS => ?_)
          refine lv_iload_n X.hx X.hb dX9_fewestSellers_37 rfl (lv_at hl 2 rfl) ?_
          obtain ⟨r_35, hc_36, hf⟩ := bd_i hf
          refine r_cs0 (As := [.int v2_13]) (rest := [.int r_33]) X sm_X9_102 (c_J6_bitCount_0f7a4 l G N v2_13 hc_36) hP hD hS hA rfl hl.1 (lv_room (Nat.le_of_ble_eq_true rfl)) ⟨Nat.le_of_ble_eq_true rfl, Nat.le_of_ble_eq_true rfl⟩ ⟨Nat.zero_le _, Nat.zero_le _⟩ dX9_fewestSellers_38 (fun H locs hP hD hS => ?_)
          refine lv_icmp_ge (tgt := 48) X.hx X.hb dX9_fewestSellers_41 (by decide) (fun hc_37 => ?_) (fun hc_37 => ?_)
          · replace hf := if_t hf hc_37
            refine lv_iconst (v := 0) X.hx X.hb dX9_fewestSellers_48 (by decide) ?_
            exact hj_17 _ _ _ _ hf hP hD hS (lv_sub hl [0, 1, 2, 3, 4, 5] rfl)
          · replace hf := if_f hf hc_37
            exact hj_30 _ _ _ hf hP hD hS (lv_sub hl [0, 1, 2, 3, 4, 5] rfl)
  exact hlo_12 N _ _ _ _ _ hf hP hD hS (lv_sub hl [4, 5, 3, 2, 1, 0] rfl)

def f_X9_withDealers_4 (N : Nat) (iE : Nat → Int32) (sE : Nat → Nat → Int32) (iM : Nat → Int32) (sM : Nat → Nat → Int32) (iC : Nat → Int32) (tC : Nat → Nat → Int64) (sC : Nat → Nat → Int32) (v1 : Int32) : Nat → (Int32) → (Int32) → Option (Int32)
  | 0, _, _ => none
  | k + 1, v2, v3 => (if (iC 0) ≤ v3 then some v2 else bd (f_X10_has N v1 v3) (fun r_15 => jn (fun (z : (Int32)) => match z with | x2_20 => f_X9_withDealers_4 N iE sE iM sM iC tC sC v1 k x2_20 (v3 + 1)) (fun K_17 => (if r_15 = 0 then K_17 v2 else bd (f_X4_dealable N iM sM iC tC sC v3) (fun r_22 => K_17 (v2 ||| r_22))))))
def f_X9_withDealers (N : Nat) (iE : Nat → Int32) (sE : Nat → Nat → Int32) (iM : Nat → Int32) (sM : Nat → Nat → Int32) (iC : Nat → Int32) (tC : Nat → Nat → Int64) (sC : Nat → Nat → Int32) (p1 : Int32) : Option (Int32) :=
  f_X9_withDealers_4 N iE sE iM sM iC tC sC p1 N p1 0
set_option maxHeartbeats 4000000 in
set_option maxRecDepth 100000 in
theorem c_X9_withDealers (l : Launch) (G : GT) (N : Nat) (uE uM uC : Nat → Nat) (iE : Nat → Int32) (sE : Nat → Nat → Int32) (iM : Nat → Int32) (sM : Nat → Nat → Int32) (iC : Nat → Int32) (tC : Nat → Nat → Int64) (sC : Nat → Nat → Int32) (p1 : Int32) {r : Int32} (hf : f_X9_withDealers N iE sE iM sM iC tC sC p1 = some r) : CI l G yX9_withDealers cX9_withDealers 4 .int 3 [.ref (uE 0), .int p1] (gE G uE (uC 0) (uM 0) iE sE ++ gM G uM (uC 0) iM sM ++ gC G uC iC tC sC) r (gE G uE (uC 0) (uM 0) iE sE ++ gM G uM (uC 0) iM sM ++ gC G uC iC tC sC) := by
  refine CI.of (by decide) (Nat.le_of_ble_eq_true rfl) ?_
  intro p e s m args below meth c A X hA hP hD hS ls hl
  have hl : lv_has ls 4 [(0, .ref (uE 0)), (1, .int p1)] := hl
  generalize hQ : MQ below (QI G A r (gE G uE (uC 0) (uM 0) iE sE ++ gM G uM (uC 0) iM sM ++ gC G uC iC tC sC)) args s 0 0 A = QQ
  unfold f_X9_withDealers at hf
  refine lv_iload_n X.hx X.hb dX9_withDealers_0 rfl (lv_at hl 1 rfl) ?_
  refine lv_istore_n (lv' := [(2, .int p1), (0, .ref (uE 0)), (1, .int p1)]) X.hx X.hb dX9_withDealers_1 rfl hl (by decide) rfl (fun ls hl => ?_)
  refine lv_iconst (v := 0) X.hx X.hb dX9_withDealers_2 (by decide) ?_
  refine lv_istore_n (lv' := [(3, .int 0), (2, .int p1), (0, .ref (uE 0)), (1, .int p1)]) X.hx X.hb dX9_withDealers_3 rfl hl (by decide) rfl (fun ls hl => ?_)
  have hlo_1 : ∀ (k : Nat) (v2_2 : Int32) (v3_3 : Int32) (H : Heap) (locs : List Loc) (ls : Array Slot), f_X9_withDealers_4 N iE sE iM sM iC tC sC p1 k v2_2 v3_3 = some r → va_P G.1 vwCl (gE G uE (uC 0) (uM 0) iE sE ++ gM G uM (uC 0) iM sM ++ gC G uC iC tC sC) H → va_D A (gE G uE (uC 0) (uM 0) iE sE ++ gM G uM (uC 0) iM sM ++ gC G uC iC tC sC) → va_S A s.heap H locs → lv_has ls 4 [(0, .ref (uE 0)), (1, .int p1), (2, .int v2_2), (3, .int v3_3)] → W p l e (RM 3) s m args below meth c H locs 0 0 QQ (F0 m 4 ls []) := by
    intro k
    induction k with
    | zero => intro v2_2 v3_3 H locs ls hf; exact absurd hf (by intro q; cases q)
    | succ k ih =>
      intro v2_2 v3_3 H locs ls hf hP hD hS hl
      unfold f_X9_withDealers_4 at hf
      refine lv_iload_n X.hx X.hb dX9_withDealers_4 rfl (lv_at hl 3 rfl) ?_
      refine lv_aload_n X.hx X.hb dX9_withDealers_5 rfl (lv_at hl 0 rfl) ?_
      refine gf_X9_28 X hP 0 rfl (v := .ref (uC 0)) rfl dX9_withDealers_6 ?_
      refine gf_X9_42 X hP 10 rfl (v := .int (iC 0)) rfl dX9_withDealers_9 ?_
      refine lv_icmp_ge (tgt := 40) X.hx X.hb dX9_withDealers_12 (by decide) (fun hc_4 => ?_) (fun hc_4 => ?_)
      · replace hf := if_t hf hc_4
        refine lv_iload_n X.hx X.hb dX9_withDealers_40 rfl (lv_at hl 2 rfl) ?_
        cases hf
        subst hQ
        exact r_iret X hP hD hS dX9_withDealers_41
      · replace hf := if_f hf hc_4
        refine lv_iload_n X.hx X.hb dX9_withDealers_15 rfl (lv_at hl 1 rfl) ?_
        refine lv_iload_n X.hx X.hb dX9_withDealers_16 rfl (lv_at hl 3 rfl) ?_
        obtain ⟨r_5, hc_6, hf⟩ := bd_i hf
        refine r_cn0 (As := [.int p1, .int v3_3]) (rest := []) X sm_X9_49 (c_X10_has l G N p1 v3_3 hc_6) hP hD hS hA rfl hl.1 (lv_room (Nat.le_of_ble_eq_true rfl)) ⟨Nat.le_of_ble_eq_true rfl, Nat.le_of_ble_eq_true rfl⟩ ⟨Nat.zero_le _, Nat.zero_le _⟩ dX9_withDealers_17 (fun H locs hP hD hS => ?_)
        obtain ⟨K_7, eK_9, hf⟩ := jn_i hf
        have hj_8 : ∀ (x2_10 : Int32) (H : Heap) (locs : List Loc) (ls : Array Slot), K_7 x2_10 = some r → va_P G.1 vwCl (gE G uE (uC 0) (uM 0) iE sE ++ gM G uM (uC 0) iM sM ++ gC G uC iC tC sC) H → va_D A (gE G uE (uC 0) (uM 0) iE sE ++ gM G uM (uC 0) iM sM ++ gC G uC iC tC sC) → va_S A s.heap H locs → lv_has ls 4 [(0, .ref (uE 0)), (1, .int p1), (2, .int x2_10), (3, .int v3_3)] → W p l e (RM 3) s m args below meth c H locs 0 0 QQ (F0 m 34 ls []) := by
          intro x2_10 H locs ls hf hP hD hS hl
          rw [eK_9] at hf
          try dsimp only at hf
          refine lv_iinc (v := (v3_3 + 1)) (lv' := [(3, .int (v3_3 + 1)), (0, .ref (uE 0)), (1, .int p1), (2, .int x2_10)]) X.hx X.hb dX9_withDealers_34 hl (k := 3) rfl rfl (by decide) rfl (fun ls hl => ?_)
          refine lv_goto (tgt := 4) X.hx X.hb dX9_withDealers_37 (by decide) ?_
          exact ih _ _ _ _ _ hf hP hD hS (lv_sub hl [1, 2, 3, 0] rfl)
        refine lv_if_eq (tgt := 34) X.hx X.hb dX9_withDealers_20 (by decide) (fun hc_11 => ?_) (fun hc_11 => ?_)
        · replace hf := if_t hf hc_11
          exact hj_8 _ _ _ _ hf hP hD hS (lv_sub hl [0, 1, 2, 3] rfl)
        · replace hf := if_f hf hc_11
          refine lv_iload_n X.hx X.hb dX9_withDealers_23 rfl (lv_at hl 2 rfl) ?_
          refine lv_aload_n X.hx X.hb dX9_withDealers_24 rfl (lv_at hl 0 rfl) ?_
          refine gf_X9_32 X hP 0 rfl (v := .ref (uM 0)) rfl dX9_withDealers_25 ?_
          refine lv_iload_n X.hx X.hb dX9_withDealers_28 rfl (lv_at hl 3 rfl) ?_
          obtain ⟨r_12, hc_13, hf⟩ := bd_i hf
          refine r_bvi (gE G uE (uC 0) (uM 0) iE sE) ([] : va_W) (As := [.int v3_3]) (rest := [.int v2_2]) X sm_X9_69 (c_X4_dealable l G N uM uC iM sM iC tC sC v3_3 hc_13) hP hD hS hA (by simp only [List.append_assoc, List.append_nil, List.nil_append]) (wo := (gE G uE (uC 0) (uM 0) iE sE ++ gM G uM (uC 0) iM sM ++ gC G uC iC tC sC)) (by simp only [List.append_assoc, List.append_nil, List.nil_append]) 0 rfl rfl rfl hl.1 (lv_room (Nat.le_of_ble_eq_true rfl)) ⟨Nat.le_of_ble_eq_true rfl, Nat.le_of_ble_eq_true rfl⟩ ⟨Nat.zero_le _, Nat.zero_le _⟩ dX9_withDealers_29 (fun H locs hP hD hS => ?_)
          refine lv_ior X.hx X.hb dX9_withDealers_32 ?_
          refine lv_istore_n (lv' := [(2, .int (v2_2 ||| r_12)), (0, .ref (uE 0)), (1, .int p1), (3, .int v3_3)]) X.hx X.hb dX9_withDealers_33 rfl hl (by decide) rfl (fun ls hl => ?_)
          exact hj_8 _ _ _ _ hf hP hD hS (lv_sub hl [1, 2, 0, 3] rfl)
  exact hlo_1 N _ _ _ _ _ hf hP hD hS (lv_sub hl [2, 3, 1, 0] rfl)

