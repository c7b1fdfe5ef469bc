def f_X9_leastDealer (N : Nat) (iE : Nat → Int32) (sE : Nat → Nat → Int32) (iM : Nat → Int32) (sM : Nat → Nat → Int32) (iC : Nat → Int32) (tC : Nat → Nat → Int64) (sC : Nat → Nat → Int32) (p1 : Int32) (p2 : Int32) : Option (Int32) :=
  bd (f_X4_dealable N iM sM iC tC sC p1) (fun r_1 => bd (f_X10_bitAt N (r_1 &&& p2) 0) (fun r_3 => (if r_3 = (-1) then some p1 else some r_3)))
set_option maxHeartbeats 4000000 in
set_option maxRecDepth 100000 in
theorem c_X9_leastDealer (l : Launch) (G : GT) (N : Nat) (uE uM uC : Nat → Nat) (iE : Nat → Int32) (sE : Nat → Nat → Int32) (iM : Nat → Int32) (sM : Nat → Nat → Int32) (iC : Nat → Int32) (tC : Nat → Nat → Int64) (sC : Nat → Nat → Int32) (p1 : Int32) (p2 : Int32) {r : Int32} (hf : f_X9_leastDealer N iE sE iM sM iC tC sC p1 p2 = some r) : CI l G yX9_leastDealer cX9_leastDealer 4 .int 3 [.ref (uE 0), .int p1, .int p2] (gE G uE (uC 0) (uM 0) iE sE ++ gM G uM (uC 0) iM sM ++ gC G uC iC tC sC) r (gE G uE (uC 0) (uM 0) iE sE ++ gM G uM (uC 0) iM sM ++ gC G uC iC tC sC) := by
  refine CI.of (by decide) (Nat.le_of_ble_eq_true rfl) ?_
  intro p e s m args below meth c A X hA hP hD hS ls hl
  have hl : lv_has ls 4 [(0, .ref (uE 0)), (1, .int p1), (2, .int p2)] := hl
  generalize hQ : MQ below (QI G A r (gE G uE (uC 0) (uM 0) iE sE ++ gM G uM (uC 0) iM sM ++ gC G uC iC tC sC)) args s 0 0 A = QQ
  unfold f_X9_leastDealer at hf
  refine lv_aload_n X.hx X.hb dX9_leastDealer_0 rfl (lv_at hl 0 rfl) ?_
  refine gf_X9_32 X hP 0 rfl (v := .ref (uM 0)) rfl dX9_leastDealer_1 ?_
  refine lv_iload_n X.hx X.hb dX9_leastDealer_4 rfl (lv_at hl 1 rfl) ?_
  obtain ⟨r_1, hc_2, hf⟩ := bd_i hf
  refine r_bvi (gE G uE (uC 0) (uM 0) iE sE) ([] : va_W) (As := [.int p1]) (rest := []) X sm_X9_69 (c_X4_dealable l G N uM uC iM sM iC tC sC p1 hc_2) hP hD hS hA (by simp only [List.append_assoc, List.append_nil, List.nil_append]) (wo := (gE G uE (uC 0) (uM 0) iE sE ++ gM G uM (uC 0) iM sM ++ gC G uC iC tC sC)) (by simp only [List.append_assoc, List.append_nil, List.nil_append]) 0 rfl rfl rfl hl.1 (lv_room (Nat.le_of_ble_eq_true rfl)) ⟨Nat.le_of_ble_eq_true rfl, Nat.le_of_ble_eq_true rfl⟩ ⟨Nat.zero_le _, Nat.zero_le _⟩ dX9_leastDealer_5 (fun H locs hP hD hS => ?_)
  refine lv_iload_n X.hx X.hb dX9_leastDealer_8 rfl (lv_at hl 2 rfl) ?_
  refine lv_iand X.hx X.hb dX9_leastDealer_9 ?_
  refine lv_iconst (v := 0) X.hx X.hb dX9_leastDealer_10 (by decide) ?_
  obtain ⟨r_3, hc_4, hf⟩ := bd_i hf
  refine r_cn0 (As := [.int (r_1 &&& p2), .int 0]) (rest := []) X sm_X9_126 (c_X10_bitAt l G N (r_1 &&& p2) 0 hc_4) hP hD hS hA rfl hl.1 (lv_room (Nat.le_of_ble_eq_true rfl)) ⟨Nat.le_of_ble_eq_true rfl, Nat.le_of_ble_eq_true rfl⟩ ⟨Nat.zero_le _, Nat.zero_le _⟩ dX9_leastDealer_11 (fun H locs hP hD hS => ?_)
  refine lv_istore_n (lv' := [(3, .int r_3), (0, .ref (uE 0)), (1, .int p1), (2, .int p2)]) X.hx X.hb dX9_leastDealer_14 rfl hl (by decide) rfl (fun ls hl => ?_)
  refine lv_iload_n X.hx X.hb dX9_leastDealer_15 rfl (lv_at hl 0 rfl) ?_
  refine lv_iconst (v := (-1)) X.hx X.hb dX9_leastDealer_16 (by decide) ?_
  refine lv_icmp_ne (tgt := 24) X.hx X.hb dX9_leastDealer_17 (by decide) (fun hc_5 => ?_) (fun hc_5 => ?_)
  · replace hf := if_f hf hc_5
    refine lv_iload_n X.hx X.hb dX9_leastDealer_24 rfl (lv_at hl 0 rfl) ?_
    cases hf
    subst hQ
    exact r_iret X hP hD hS dX9_leastDealer_25
  · replace hf := if_t hf hc_5
    refine lv_iload_n X.hx X.hb dX9_leastDealer_20 rfl (lv_at hl 2 rfl) ?_
    refine lv_goto (tgt := 25) X.hx X.hb dX9_leastDealer_21 (by decide) ?_
    cases hf
    subst hQ
    exact r_iret X hP hD hS dX9_leastDealer_25

def f_X9_goBetweens_82 (N : Nat) (iE : Nat → Int32) (iM : Nat → Int32) (sM : Nat → Nat → Int32) (iC : Nat → Int32) (tC : Nat → Nat → Int64) (sC : Nat → Nat → Int32) (v3 : Int32) : Nat → (Nat → Nat → Int32) → (Int32) → (Int32) → Option (Int32 × (Nat → Int32) × (Nat → Nat → Int32))
  | 0, _, _, _ => none
  | k + 1, sE, v4, v5 => (if (iE 4) ≤ v5 then some ((iE 4), iE, sE) else (if (7 : Int32) ≤ v5 then some ((iE 4), iE, sE) else ck ((v3 - 1) - v5) 8 (bd (f_X9_leastDealer N iE sE iM sM iC tC sC v4 ((sE 7) (ix ((v3 - 1) - v5)))) (fun r_25 => ck v5 7 (nv (upd (sE 5) (ix v5) r_25) (fun g_28 => f_X9_goBetweens_82 N iE iM sM iC tC sC v3 k (va_up sE 5 g_28) r_25 (v5 + 1)))))))
def f_X9_goBetweens_11 (N : Nat) (iE : Nat → Int32) (iM : Nat → Int32) (sM : Nat → Nat → Int32) (iC : Nat → Int32) (tC : Nat → Nat → Int64) (sC : Nat → Nat → Int32) (v1 : Int32) (K_2 : ((Int32) × (Nat → Nat → Int32)) → Option (Int32 × (Nat → Int32) × (Nat → Nat → Int32))) : Nat → (Nat → Nat → Int32) → (Int32) → Option (Int32 × (Nat → Int32) × (Nat → Nat → Int32))
  | 0, _, _ => none
  | k + 1, sE, v3 => (if (7 : Int32) ≤ v3 then K_2 (v3, sE) else ck v3 8 (bd (f_X10_has N ((sE 7) (ix v3)) v1) (fun r_44 => (if r_44 = 0 then ck v3 8 (bd (f_X9_withDealers N iE sE iM sM iC tC sC ((sE 7) (ix v3))) (fun r_48 => ck (v3 + 1) 8 (nv (upd (sE 7) (ix (v3 + 1)) r_48) (fun g_51 => f_X9_goBetweens_11 N iE iM sM iC tC sC v1 K_2 k (va_up sE 7 g_51) (v3 + 1))))) else K_2 (v3, sE)))))
def f_X9_goBetweens (N : Nat) (iE : Nat → Int32) (sE : Nat → Nat → Int32) (iM : Nat → Int32) (sM : Nat → Nat → Int32) (iC : Nat → Int32) (tC : Nat → Nat → Int64) (sC : Nat → Nat → Int32) (p1 : Int32) (p2 : Int32) : Option (Int32 × (Nat → Int32) × (Nat → Nat → Int32)) :=
  nv (upd (sE 7) 0 ((1 : Int32) <<< (p2 &&& 31))) (fun g_1 => jn (fun (z : (Int32) × (Nat → Nat → Int32)) => match z with | (x3_5, sE_6) => ck x3_5 8 (bd (f_X10_has N ((sE_6 7) (ix x3_5)) p1) (fun r_8 => (if r_8 = 0 then some ((-1), iE, sE_6) else f_X9_goBetweens_82 N (va_up iE 4 (x3_5 - 1)) iM sM iC tC sC x3_5 N sE_6 p1 0)))) (fun K_2 => f_X9_goBetweens_11 N iE iM sM iC tC sC p1 K_2 N (va_up sE 7 g_1) 0))
set_option maxHeartbeats 4000000 in
set_option maxRecDepth 100000 in
theorem c_X9_goBetweens (l : Launch) (G : GT) (N : Nat) (uE uM uC : Nat → Nat) (iE : Nat → Int32) (sE : Nat → Nat → Int32) (iM : Nat → Int32) (sM : Nat → Nat → Int32) (iC : Nat → Int32) (tC : Nat → Nat → Int64) (sC : Nat → Nat → Int32) (p1 : Int32) (p2 : Int32) {r : Int32} {iE' : Nat → Int32} {sE' : Nat → Nat → Int32} (hf : f_X9_goBetweens N iE sE iM sM iC tC sC p1 p2 = some (r, iE', sE')) : CI l G yX9_goBetweens cX9_goBetweens 6 .int 4 [.ref (uE 0), .int p1, .int p2] (gE G uE (uC 0) (uM 0) iE sE ++ gM G uM (uC 0) iM sM ++ gC G uC iC tC sC) r (gE G uE (uC 0) (uM 0) iE' sE' ++ gM G uM (uC 0) iM sM ++ gC G uC iC tC sC) := by
  refine CI.of (by decide) (Nat.le_of_ble_eq_true rfl) ?_
  intro p e s m args below meth c A X hA hP hD hS ls hl
  have hl : lv_has ls 6 [(0, .ref (uE 0)), (1, .int p1), (2, .int p2)] := hl
  generalize hQ : MQ below (QI G A r (gE G uE (uC 0) (uM 0) iE' sE' ++ gM G uM (uC 0) iM sM ++ gC G uC iC tC sC)) args s 0 0 A = QQ
  unfold f_X9_goBetweens at hf
  refine lv_aload_n X.hx X.hb dX9_goBetweens_0 rfl (lv_at hl 0 rfl) ?_
  refine gf_X9_25 X hP 0 rfl (v := .ref (uE 8)) rfl dX9_goBetweens_1 ?_
  refine lv_iconst (v := 0) X.hx X.hb dX9_goBetweens_4 (by decide) ?_
  refine lv_iconst (v := 1) X.hx X.hb dX9_goBetweens_5 (by decide) ?_
  refine lv_iload_n X.hx X.hb dX9_goBetweens_6 rfl (lv_at hl 2 rfl) ?_
  refine lv_ishl X.hx X.hb dX9_goBetweens_7 ?_
  obtain ⟨g_1, eg_1, hf⟩ := nv_i hf
  refine r_iast X hP hD hS 2 (f := (sE 7)) rfl (vp_c rfl) (wo := (gE G uE (uC 0) (uM 0) iE (va_up sE 7 g_1) ++ gM G uM (uC 0) iM sM ++ gC G uC iC tC sC)) (by subst eg_1; rfl) dX9_goBetweens_8 (fun H locs hP hD hS => ?_)
  refine lv_iconst (v := 0) X.hx X.hb dX9_goBetweens_9 (by decide) ?_
  refine lv_istore_n (lv' := [(3, .int 0), (0, .ref (uE 0)), (1, .int p1), (2, .int p2)]) X.hx X.hb dX9_goBetweens_10 rfl hl (by decide) rfl (fun ls hl => ?_)
  obtain ⟨K_2, eK_4, hf⟩ := jn_i hf
  have hj_3 : ∀ (x3_5 : Int32) (sE_6 : Nat → Nat → Int32) (H : Heap) (locs : List Loc) (ls : Array Slot), K_2 (x3_5, sE_6) = some (r, iE', sE') → va_P G.1 vwCl (gE G uE (uC 0) (uM 0) iE sE_6 ++ gM G uM (uC 0) iM sM ++ gC G uC iC tC sC) H → va_D A (gE G uE (uC 0) (uM 0) iE sE_6 ++ gM G uM (uC 0) iM sM ++ gC G uC iC tC sC) → va_S A s.heap H locs → lv_has ls 6 [(0, .ref (uE 0)), (1, .int p1), (3, .int x3_5)] → W p l e (RM 4) s m args below meth c H locs 0 0 QQ (F0 m 54 ls []) := by
    intro x3_5 sE_6 H locs ls hf hP hD hS hl
    rw [eK_4] at hf
    try dsimp only at hf
    refine lv_aload_n X.hx X.hb dX9_goBetweens_54 rfl (lv_at hl 0 rfl) ?_
    refine gf_X9_25 X hP 0 rfl (v := .ref (uE 8)) rfl dX9_goBetweens_55 ?_
    refine lv_iload_n X.hx X.hb dX9_goBetweens_58 rfl (lv_at hl 2 rfl) ?_
    obtain ⟨hi_7, hf⟩ := ck_i hf
    refine r_iald X hP 2 (f := (sE_6 7)) rfl hi_7 dX9_goBetweens_59 ?_
    refine lv_iload_n X.hx X.hb dX9_goBetweens_60 rfl (lv_at hl 1 rfl) ?_
    obtain ⟨r_8, hc_9, hf⟩ := bd_i hf
    refine r_cn0 (As := [.int ((sE_6 7) (ix x3_5)), .int p1]) (rest := []) X sm_X9_49 (c_X10_has l G N ((sE_6 7) (ix x3_5)) p1 hc_9) hP hD hS hA rfl hl.1 (lv_room (Nat.le_of_ble_eq_true rfl)) ⟨Nat.le_of_ble_eq_true rfl, Nat.le_of_ble_eq_true rfl⟩ ⟨Nat.zero_le _, Nat.zero_le _⟩ dX9_goBetweens_61 (fun H locs hP hD hS => ?_)
    refine lv_if_ne (tgt := 69) X.hx X.hb dX9_goBetweens_64 (by decide) (fun hc_10 => ?_) (fun hc_10 => ?_)
    · replace hf := if_f hf hc_10
      refine lv_aload_n X.hx X.hb dX9_goBetweens_69 rfl (lv_at hl 0 rfl) ?_
      refine lv_iload_n X.hx X.hb dX9_goBetweens_70 rfl (lv_at hl 2 rfl) ?_
      refine lv_iconst (v := 1) X.hx X.hb dX9_goBetweens_71 (by decide) ?_
      refine lv_isub X.hx X.hb dX9_goBetweens_72 ?_
      refine pf_X9_120 X hP hD hS 0 rfl rfl rfl (Nat.le_of_ble_eq_true rfl) (wo := (gE G uE (uC 0) (uM 0) (va_up iE 4 (x3_5 - 1)) sE_6 ++ gM G uM (uC 0) iM sM ++ gC G uC iC tC sC)) rfl dX9_goBetweens_73 (fun H locs hP hD hS => ?_)
      refine lv_iload_n X.hx X.hb dX9_goBetweens_76 rfl (lv_at hl 1 rfl) ?_
      refine lv_istore (lv' := [(4, .int p1), (0, .ref (uE 0)), (1, .int p1), (3, .int x3_5)]) X.hx X.hb dX9_goBetweens_77 hl (by decide) rfl (fun ls hl => ?_)
      refine lv_iconst (v := 0) X.hx X.hb dX9_goBetweens_79 (by decide) ?_
      refine lv_istore (lv' := [(5, .int 0), (4, .int p1), (0, .ref (uE 0)), (1, .int p1), (3, .int x3_5)]) X.hx X.hb dX9_goBetweens_80 hl (by decide) rfl (fun ls hl => ?_)
      have hlo_11 : ∀ (k : Nat) (sE_12 : Nat → Nat → Int32) (v4_13 : Int32) (v5_14 : Int32) (H : Heap) (locs : List Loc) (ls : Array Slot), f_X9_goBetweens_82 N (va_up iE 4 (x3_5 - 1)) iM sM iC tC sC x3_5 k sE_12 v4_13 v5_14 = some (r, iE', sE') → va_P G.1 vwCl (gE G uE (uC 0) (uM 0) (va_up iE 4 (x3_5 - 1)) sE_12 ++ gM G uM (uC 0) iM sM ++ gC G uC iC tC sC) H → va_D A (gE G uE (uC 0) (uM 0) (va_up iE 4 (x3_5 - 1)) sE_12 ++ gM G uM (uC 0) iM sM ++ gC G uC iC tC sC) → va_S A s.heap H locs → lv_has ls 6 [(0, .ref (uE 0)), (3, .int x3_5), (4, .int v4_13), (5, .int v5_14)] → W p l e (RM 4) s m args below meth c H locs 0 0 QQ (F0 m 82 ls []) := by
        intro k
        induction k with
        | zero => intro sE_12 v4_13 v5_14 H locs ls hf; exact absurd hf (by intro q; cases q)
        | succ k ih =>
          intro sE_12 v4_13 v5_14 H locs ls hf hP hD hS hl
          unfold f_X9_goBetweens_82 at hf
          refine lv_iload X.hx X.hb dX9_goBetweens_82 (lv_at hl 3 rfl) ?_
          refine lv_aload_n X.hx X.hb dX9_goBetweens_84 rfl (lv_at hl 0 rfl) ?_
          refine gf_X9_120 X hP 0 rfl (v := .int (x3_5 - 1)) rfl dX9_goBetweens_85 ?_
          refine lv_icmp_ge (tgt := 132) X.hx X.hb dX9_goBetweens_88 (by decide) (fun hc_15 => ?_) (fun hc_15 => ?_)
          · replace hf := if_t hf hc_15
            refine lv_aload_n X.hx X.hb dX9_goBetweens_132 rfl (lv_at hl 0 rfl) ?_
            refine gf_X9_120 X hP 0 rfl (v := .int (x3_5 - 1)) rfl dX9_goBetweens_133 ?_
            cases hf
            subst hQ
            exact r_iret X hP hD hS dX9_goBetweens_136
          · replace hf := if_f hf hc_15
            refine lv_iload X.hx X.hb dX9_goBetweens_91 (lv_at hl 3 rfl) ?_
            refine lv_bipush (v := 7) X.hx X.hb dX9_goBetweens_93 (by decide) ?_
            refine lv_icmp_ge (tgt := 132) X.hx X.hb dX9_goBetweens_95 (by decide) (fun hc_16 => ?_) (fun hc_16 => ?_)
            · replace hf := if_t hf hc_16
              refine lv_aload_n X.hx X.hb dX9_goBetweens_132 rfl (lv_at hl 0 rfl) ?_
              refine gf_X9_120 X hP 0 rfl (v := .int (x3_5 - 1)) rfl dX9_goBetweens_133 ?_
              cases hf
              subst hQ
              exact r_iret X hP hD hS dX9_goBetweens_136
            · replace hf := if_f hf hc_16
              refine lv_aload_n X.hx X.hb dX9_goBetweens_98 rfl (lv_at hl 0 rfl) ?_
              refine lv_iload X.hx X.hb dX9_goBetweens_99 (lv_at hl 2 rfl) ?_
              refine lv_aload_n X.hx X.hb dX9_goBetweens_101 rfl (lv_at hl 0 rfl) ?_
              refine gf_X9_25 X hP 0 rfl (v := .ref (uE 8)) rfl dX9_goBetweens_102 ?_
              refine lv_iload_n X.hx X.hb dX9_goBetweens_105 rfl (lv_at hl 1 rfl) ?_
              refine lv_iconst (v := 1) X.hx X.hb dX9_goBetweens_106 (by decide) ?_
              refine lv_isub X.hx X.hb dX9_goBetweens_107 ?_
              refine lv_iload X.hx X.hb dX9_goBetweens_108 (lv_at hl 3 rfl) ?_
              refine lv_isub X.hx X.hb dX9_goBetweens_110 ?_
              obtain ⟨hi_17, hf⟩ := ck_i hf
              refine r_iald X hP 2 (f := (sE_12 7)) rfl hi_17 dX9_goBetweens_111 ?_
              obtain ⟨r_18, hc_19, hf⟩ := bd_i hf
              refine r_wvi (As := [.int v4_13, .int ((sE_12 7) (ix ((x3_5 - 1) - v5_14)))]) (rest := []) X sm_X9_123 (c_X9_leastDealer l G N uE uM uC (va_up iE 4 (x3_5 - 1)) sE_12 iM sM iC tC sC v4_13 ((sE_12 7) (ix ((x3_5 - 1) - v5_14))) hc_19) hP hD hS hA 0 rfl rfl rfl hl.1 (lv_room (Nat.le_of_ble_eq_true rfl)) ⟨Nat.le_of_ble_eq_true rfl, Nat.le_of_ble_eq_true rfl⟩ ⟨Nat.zero_le _, Nat.zero_le _⟩ dX9_goBetweens_112 (fun H locs hP hD hS => ?_)
              refine lv_istore (lv' := [(4, .int r_18), (0, .ref (uE 0)), (3, .int x3_5), (5, .int v5_14)]) X.hx X.hb dX9_goBetweens_115 hl (by decide) rfl (fun ls hl => ?_)
              refine lv_aload_n X.hx X.hb dX9_goBetweens_117 rfl (lv_at hl 1 rfl) ?_
              refine gf_X9_18 X hP 0 rfl (v := .ref (uE 6)) rfl dX9_goBetweens_118 ?_
              refine lv_iload X.hx X.hb dX9_goBetweens_121 (lv_at hl 3 rfl) ?_
              refine lv_iload X.hx X.hb dX9_goBetweens_123 (lv_at hl 0 rfl) ?_
              obtain ⟨hi_20, hf⟩ := ck_i hf
              obtain ⟨g_21, eg_21, hf⟩ := nv_i hf
              refine r_iast X hP hD hS 1 (f := (sE_12 5)) rfl hi_20 (wo := (gE G uE (uC 0) (uM 0) (va_up iE 4 (x3_5 - 1)) (va_up sE_12 5 g_21) ++ gM G uM (uC 0) iM sM ++ gC G uC iC tC sC)) (by subst eg_21; rfl) dX9_goBetweens_125 (fun H locs hP hD hS => ?_)
              refine lv_iinc (v := (v5_14 + 1)) (lv' := [(5, .int (v5_14 + 1)), (4, .int r_18), (0, .ref (uE 0)), (3, .int x3_5)]) X.hx X.hb dX9_goBetweens_126 hl (k := 3) rfl rfl (by decide) rfl (fun ls hl => ?_)
              refine lv_goto (tgt := 82) X.hx X.hb dX9_goBetweens_129 (by decide) ?_
              exact ih _ _ _ _ _ _ hf hP hD hS (lv_sub hl [2, 3, 1, 0] rfl)
      exact hlo_11 N _ _ _ _ _ _ hf hP hD hS (lv_sub hl [2, 4, 1, 0] rfl)
    · replace hf := if_t hf hc_10
      refine lv_iconst (v := (-1)) X.hx X.hb dX9_goBetweens_67 (by decide) ?_
      cases hf
      subst hQ
      exact r_iret X hP hD hS dX9_goBetweens_68
  have hlo_29 : ∀ (k : Nat) (sE_30 : Nat → Nat → Int32) (v3_31 : Int32) (H : Heap) (locs : List Loc) (ls : Array Slot), f_X9_goBetweens_11 N iE iM sM iC tC sC p1 K_2 k sE_30 v3_31 = some (r, iE', sE') → va_P G.1 vwCl (gE G uE (uC 0) (uM 0) iE sE_30 ++ gM G uM (uC 0) iM sM ++ gC G uC iC tC sC) H → va_D A (gE G uE (uC 0) (uM 0) iE sE_30 ++ gM G uM (uC 0) iM sM ++ gC G uC iC tC sC) → va_S A s.heap H locs → lv_has ls 6 [(0, .ref (uE 0)), (1, .int p1), (3, .int v3_31)] → W p l e (RM 4) s m args below meth c H locs 0 0 QQ (F0 m 11 ls []) := by
    intro k
    induction k with
    | zero => intro sE_30 v3_31 H locs ls hf; exact absurd hf (by intro q; cases q)
    | succ k ih =>
      intro sE_30 v3_31 H locs ls hf hP hD hS hl
      unfold f_X9_goBetweens_11 at hf
      refine lv_iload_n X.hx X.hb dX9_goBetweens_11 rfl (lv_at hl 2 rfl) ?_
      refine lv_bipush (v := 7) X.hx X.hb dX9_goBetweens_12 (by decide) ?_
      refine lv_icmp_ge (tgt := 54) X.hx X.hb dX9_goBetweens_14 (by decide) (fun hc_32 => ?_) (fun hc_32 => ?_)
      · replace hf := if_t hf hc_32
        exact hj_3 _ _ _ _ _ hf hP hD hS (lv_sub hl [0, 1, 2] rfl)
      · replace hf := if_f hf hc_32
        refine lv_aload_n X.hx X.hb dX9_goBetweens_17 rfl (lv_at hl 0 rfl) ?_
        refine gf_X9_25 X hP 0 rfl (v := .ref (uE 8)) rfl dX9_goBetweens_18 ?_
        refine lv_iload_n X.hx X.hb dX9_goBetweens_21 rfl (lv_at hl 2 rfl) ?_
        obtain ⟨hi_33, hf⟩ := ck_i hf
        refine r_iald X hP 2 (f := (sE_30 7)) rfl hi_33 dX9_goBetweens_22 ?_
        refine lv_iload_n X.hx X.hb dX9_goBetweens_23 rfl (lv_at hl 1 rfl) ?_
        obtain ⟨r_34, hc_35, hf⟩ := bd_i hf
        refine r_cn0 (As := [.int ((sE_30 7) (ix v3_31)), .int p1]) (rest := []) X sm_X9_49 (c_X10_has l G N ((sE_30 7) (ix v3_31)) p1 hc_35) hP hD hS hA rfl hl.1 (lv_room (Nat.le_of_ble_eq_true rfl)) ⟨Nat.le_of_ble_eq_true rfl, Nat.le_of_ble_eq_true rfl⟩ ⟨Nat.zero_le _, Nat.zero_le _⟩ dX9_goBetweens_24 (fun H locs hP hD hS => ?_)
        refine lv_if_ne (tgt := 54) X.hx X.hb dX9_goBetweens_27 (by decide) (fun hc_36 => ?_) (fun hc_36 => ?_)
        · replace hf := if_f hf hc_36
          exact hj_3 _ _ _ _ _ hf hP hD hS (lv_sub hl [0, 1, 2] rfl)
        · replace hf := if_t hf hc_36
          refine lv_aload_n X.hx X.hb dX9_goBetweens_30 rfl (lv_at hl 0 rfl) ?_
          refine gf_X9_25 X hP 0 rfl (v := .ref (uE 8)) rfl dX9_goBetweens_31 ?_
          refine lv_iload_n X.hx X.hb dX9_goBetweens_34 rfl (lv_at hl 2 rfl) ?_
          refine lv_iconst (v := 1) X.hx X.hb dX9_goBetweens_35 (by decide) ?_
          refine lv_iadd X.hx X.hb dX9_goBetweens_36 ?_
          refine lv_aload_n X.hx X.hb dX9_goBetweens_37 rfl (lv_at hl 0 rfl) ?_
          refine lv_aload_n X.hx X.hb dX9_goBetweens_38 rfl (lv_at hl 0 rfl) ?_
          refine gf_X9_25 X hP 0 rfl (v := .ref (uE 8)) rfl dX9_goBetweens_39 ?_
          refine lv_iload_n X.hx X.hb dX9_goBetweens_42 rfl (lv_at hl 2 rfl) ?_
          obtain ⟨hi_37, hf⟩ := ck_i hf
          refine r_iald X hP 2 (f := (sE_30 7)) rfl hi_37 dX9_goBetweens_43 ?_
          obtain ⟨r_38, hc_39, hf⟩ := bd_i hf
          refine r_wvi (As := [.int ((sE_30 7) (ix v3_31))]) (rest := [.int (v3_31 + 1), .ref (uE 8)]) X sm_X9_117 (c_X9_withDealers l G N uE uM uC iE sE_30 iM sM iC tC sC ((sE_30 7) (ix v3_31)) hc_39) hP hD hS hA 0 rfl rfl rfl hl.1 (lv_room (Nat.le_of_ble_eq_true rfl)) ⟨Nat.le_of_ble_eq_true rfl, Nat.le_of_ble_eq_true rfl⟩ ⟨Nat.zero_le _, Nat.zero_le _⟩ dX9_goBetweens_44 (fun H locs hP hD hS => ?_)
          obtain ⟨hi_40, hf⟩ := ck_i hf
          obtain ⟨g_41, eg_41, hf⟩ := nv_i hf
          refine r_iast X hP hD hS 2 (f := (sE_30 7)) rfl hi_40 (wo := (gE G uE (uC 0) (uM 0) iE (va_up sE_30 7 g_41) ++ gM G uM (uC 0) iM sM ++ gC G uC iC tC sC)) (by subst eg_41; rfl) dX9_goBetweens_47 (fun H locs hP hD hS => ?_)
          refine lv_iinc (v := (v3_31 + 1)) (lv' := [(3, .int (v3_31 + 1)), (0, .ref (uE 0)), (1, .int p1)]) X.hx X.hb dX9_goBetweens_48 hl (k := 2) rfl rfl (by decide) rfl (fun ls hl => ?_)
          refine lv_goto (tgt := 11) X.hx X.hb dX9_goBetweens_51 (by decide) ?_
          exact ih _ _ _ _ _ hf hP hD hS (lv_sub hl [1, 2, 0] rfl)
  exact hlo_29 N _ _ _ _ _ hf hP hD hS (lv_sub hl [1, 2, 0] rfl)

def f_X9_withKnown_4 (N : Nat) (iE : Nat → Int32) (sE : Nat → Nat → Int32) (iM : Nat → Int32) (sM : Nat → Nat → Int32) (iC : Nat → Int32) (tC : Nat → Nat → Int64) (sC : Nat → Nat → Int32) (v1 : Int32) : Nat → (Int32) → (Int32) → Option (Int32)
  | 0, _, _ => none
  | k + 1, v2, v3 => (if (iC 0) ≤ v3 then some v2 else bd (f_X10_has N v1 v3) (fun r_15 => jn (fun (z : (Int32)) => match z with | x2_20 => f_X9_withKnown_4 N iE sE iM sM iC tC sC v1 k x2_20 (v3 + 1)) (fun K_17 => (if r_15 = 0 then K_17 v2 else bd (f_X4_known N iM sM iC tC sC v3) (fun r_22 => K_17 (v2 ||| r_22))))))
def f_X9_withKnown (N : Nat) (iE : Nat → Int32) (sE : Nat → Nat → Int32) (iM : Nat → Int32) (sM : Nat → Nat → Int32) (iC : Nat → Int32) (tC : Nat → Nat → Int64) (sC : Nat → Nat → Int32) (p1 : Int32) : Option (Int32) :=
  f_X9_withKnown_4 N iE sE iM sM iC tC sC p1 N p1 0
set_option maxHeartbeats 4000000 in
set_option maxRecDepth 100000 in
theorem c_X9_withKnown (l : Launch) (G : GT) (N : Nat) (uE uM uC : Nat → Nat) (iE : Nat → Int32) (sE : Nat → Nat → Int32) (iM : Nat → Int32) (sM : Nat → Nat → Int32) (iC : Nat → Int32) (tC : Nat → Nat → Int64) (sC : Nat → Nat → Int32) (p1 : Int32) {r : Int32} (hf : f_X9_withKnown N iE sE iM sM iC tC sC p1 = some r) : CI l G yX9_withKnown cX9_withKnown 4 .int 2 [.ref (uE 0), .int p1] (gE G uE (uC 0) (uM 0) iE sE ++ gM G uM (uC 0) iM sM ++ gC G uC iC tC sC) r (gE G uE (uC 0) (uM 0) iE sE ++ gM G uM (uC 0) iM sM ++ gC G uC iC tC sC) := by
  refine CI.of (by decide) (Nat.le_of_ble_eq_true rfl) ?_
  intro p e s m args below meth c A X hA hP hD hS ls hl
  have hl : lv_has ls 4 [(0, .ref (uE 0)), (1, .int p1)] := hl
  generalize hQ : MQ below (QI G A r (gE G uE (uC 0) (uM 0) iE sE ++ gM G uM (uC 0) iM sM ++ gC G uC iC tC sC)) args s 0 0 A = QQ
  unfold f_X9_withKnown at hf
  refine lv_iload_n X.hx X.hb dX9_withKnown_0 rfl (lv_at hl 1 rfl) ?_
  refine lv_istore_n (lv' := [(2, .int p1), (0, .ref (uE 0)), (1, .int p1)]) X.hx X.hb dX9_withKnown_1 rfl hl (by decide) rfl (fun ls hl => ?_)
  refine lv_iconst (v := 0) X.hx X.hb dX9_withKnown_2 (by decide) ?_
  refine lv_istore_n (lv' := [(3, .int 0), (2, .int p1), (0, .ref (uE 0)), (1, .int p1)]) X.hx X.hb dX9_withKnown_3 rfl hl (by decide) rfl (fun ls hl => ?_)
  have hlo_1 : ∀ (k : Nat) (v2_2 : Int32) (v3_3 : Int32) (H : Heap) (locs : List Loc) (ls : Array Slot), f_X9_withKnown_4 N iE sE iM sM iC tC sC p1 k v2_2 v3_3 = some r → va_P G.1 vwCl (gE G uE (uC 0) (uM 0) iE sE ++ gM G uM (uC 0) iM sM ++ gC G uC iC tC sC) H → va_D A (gE G uE (uC 0) (uM 0) iE sE ++ gM G uM (uC 0) iM sM ++ gC G uC iC tC sC) → va_S A s.heap H locs → lv_has ls 4 [(0, .ref (uE 0)), (1, .int p1), (2, .int v2_2), (3, .int v3_3)] → W p l e (RM 2) s m args below meth c H locs 0 0 QQ (F0 m 4 ls []) := by
    intro k
    induction k with
    | zero => intro v2_2 v3_3 H locs ls hf; exact absurd hf (by intro q; cases q)
    | succ k ih =>
      intro v2_2 v3_3 H locs ls hf hP hD hS hl
      unfold f_X9_withKnown_4 at hf
      refine lv_iload_n X.hx X.hb dX9_withKnown_4 rfl (lv_at hl 3 rfl) ?_
      refine lv_aload_n X.hx X.hb dX9_withKnown_5 rfl (lv_at hl 0 rfl) ?_
      refine gf_X9_28 X hP 0 rfl (v := .ref (uC 0)) rfl dX9_withKnown_6 ?_
      refine gf_X9_42 X hP 10 rfl (v := .int (iC 0)) rfl dX9_withKnown_9 ?_
      refine lv_icmp_ge (tgt := 40) X.hx X.hb dX9_withKnown_12 (by decide) (fun hc_4 => ?_) (fun hc_4 => ?_)
      · replace hf := if_t hf hc_4
        refine lv_iload_n X.hx X.hb dX9_withKnown_40 rfl (lv_at hl 2 rfl) ?_
        cases hf
        subst hQ
        exact r_iret X hP hD hS dX9_withKnown_41
      · replace hf := if_f hf hc_4
        refine lv_iload_n X.hx X.hb dX9_withKnown_15 rfl (lv_at hl 1 rfl) ?_
        refine lv_iload_n X.hx X.hb dX9_withKnown_16 rfl (lv_at hl 3 rfl) ?_
        obtain ⟨r_5, hc_6, hf⟩ := bd_i hf
        refine r_cn0 (As := [.int p1, .int v3_3]) (rest := []) X sm_X9_49 (c_X10_has l G N p1 v3_3 hc_6) hP hD hS hA rfl hl.1 (lv_room (Nat.le_of_ble_eq_true rfl)) ⟨Nat.le_of_ble_eq_true rfl, Nat.le_of_ble_eq_true rfl⟩ ⟨Nat.zero_le _, Nat.zero_le _⟩ dX9_withKnown_17 (fun H locs hP hD hS => ?_)
        obtain ⟨K_7, eK_9, hf⟩ := jn_i hf
        have hj_8 : ∀ (x2_10 : Int32) (H : Heap) (locs : List Loc) (ls : Array Slot), K_7 x2_10 = some r → va_P G.1 vwCl (gE G uE (uC 0) (uM 0) iE sE ++ gM G uM (uC 0) iM sM ++ gC G uC iC tC sC) H → va_D A (gE G uE (uC 0) (uM 0) iE sE ++ gM G uM (uC 0) iM sM ++ gC G uC iC tC sC) → va_S A s.heap H locs → lv_has ls 4 [(0, .ref (uE 0)), (1, .int p1), (2, .int x2_10), (3, .int v3_3)] → W p l e (RM 2) s m args below meth c H locs 0 0 QQ (F0 m 34 ls []) := by
          intro x2_10 H locs ls hf hP hD hS hl
          rw [eK_9] at hf
          try dsimp only at hf
          refine lv_iinc (v := (v3_3 + 1)) (lv' := [(3, .int (v3_3 + 1)), (0, .ref (uE 0)), (1, .int p1), (2, .int x2_10)]) X.hx X.hb dX9_withKnown_34 hl (k := 3) rfl rfl (by decide) rfl (fun ls hl => ?_)
          refine lv_goto (tgt := 4) X.hx X.hb dX9_withKnown_37 (by decide) ?_
          exact ih _ _ _ _ _ hf hP hD hS (lv_sub hl [1, 2, 3, 0] rfl)
        refine lv_if_eq (tgt := 34) X.hx X.hb dX9_withKnown_20 (by decide) (fun hc_11 => ?_) (fun hc_11 => ?_)
        · replace hf := if_t hf hc_11
          exact hj_8 _ _ _ _ hf hP hD hS (lv_sub hl [0, 1, 2, 3] rfl)
        · replace hf := if_f hf hc_11
          refine lv_iload_n X.hx X.hb dX9_withKnown_23 rfl (lv_at hl 2 rfl) ?_
          refine lv_aload_n X.hx X.hb dX9_withKnown_24 rfl (lv_at hl 0 rfl) ?_
          refine gf_X9_32 X hP 0 rfl (v := .ref (uM 0)) rfl dX9_withKnown_25 ?_
          refine lv_iload_n X.hx X.hb dX9_withKnown_28 rfl (lv_at hl 3 rfl) ?_
          obtain ⟨r_12, hc_13, hf⟩ := bd_i hf
          refine r_bvi (gE G uE (uC 0) (uM 0) iE sE) ([] : va_W) (As := [.int v3_3]) (rest := [.int v2_2]) X sm_X9_129 (c_X4_known l G N uM uC iM sM iC tC sC v3_3 hc_13) hP hD hS hA (by simp only [List.append_assoc, List.append_nil, List.nil_append]) (wo := (gE G uE (uC 0) (uM 0) iE sE ++ gM G uM (uC 0) iM sM ++ gC G uC iC tC sC)) (by simp only [List.append_assoc, List.append_nil, List.nil_append]) 0 rfl rfl rfl hl.1 (lv_room (Nat.le_of_ble_eq_true rfl)) ⟨Nat.le_of_ble_eq_true rfl, Nat.le_of_ble_eq_true rfl⟩ ⟨Nat.zero_le _, Nat.zero_le _⟩ dX9_withKnown_29 (fun H locs hP hD hS => ?_)
          refine lv_ior X.hx X.hb dX9_withKnown_32 ?_
          refine lv_istore_n (lv' := [(2, .int (v2_2 ||| r_12)), (0, .ref (uE 0)), (1, .int p1), (3, .int v3_3)]) X.hx X.hb dX9_withKnown_33 rfl hl (by decide) rfl (fun ls hl => ?_)
          exact hj_8 _ _ _ _ hf hP hD hS (lv_sub hl [1, 2, 0, 3] rfl)
  exact hlo_1 N _ _ _ _ _ hf hP hD hS (lv_sub hl [2, 3, 1, 0] rfl)

def f_X9_daysTillOut_6 (N : Nat) (iE : Nat → Int32) (sE : Nat → Nat → Int32) (iM : Nat → Int32) (sM : Nat → Nat → Int32) (iC : Nat → Int32) (tC : Nat → Nat → Int64) (sC : Nat → Nat → Int32) : Nat → (Int32) → (Int32) → Option (Int32)
  | 0, _, _ => none
  | k + 1, v2, v3 => (if (7 : Int32) ≤ v3 then some (-1) else bd (f_X1_everyone N iC tC sC) (fun r_12 => (if v2 = r_12 then some v3 else bd (f_X9_withKnown N iE sE iM sM iC tC sC v2) (fun r_15 => f_X9_daysTillOut_6 N iE sE iM sM iC tC sC k r_15 (v3 + 1)))))
def f_X9_daysTillOut (N : Nat) (iE : Nat → Int32) (sE : Nat → Nat → Int32) (iM : Nat → Int32) (sM : Nat → Nat → Int32) (iC : Nat → Int32) (tC : Nat → Nat → Int64) (sC : Nat → Nat → Int32) (p1 : Int32) : Option (Int32) :=
  nv ((1 : Int32) <<< (p1 &&& 31)) (fun n_1 => f_X9_daysTillOut_6 N iE sE iM sM iC tC sC N n_1 0)
set_option maxHeartbeats 4000000 in
set_option maxRecDepth 100000 in
theorem c_X9_daysTillOut (l : Launch) (G : GT) (N : Nat) (uE uM uC : Nat → Nat) (iE : Nat → Int32) (sE : Nat → Nat → Int32) (iM : Nat → Int32) (sM : Nat → Nat → Int32) (iC : Nat → Int32) (tC : Nat → Nat → Int64) (sC : Nat → Nat → Int32) (p1 : Int32) {r : Int32} (hf : f_X9_daysTillOut N iE sE iM sM iC tC sC p1 = some r) : CI l G yX9_daysTillOut cX9_daysTillOut 4 .int 3 [.ref (uE 0), .int p1] (gE G uE (uC 0) (uM 0) iE sE ++ gM G uM (uC 0) iM sM ++ gC G uC iC tC sC) r (gE G uE (uC 0) (uM 0) iE sE ++ gM G uM (uC 0) iM sM ++ gC G uC iC tC sC) := by
  refine CI.of (by decide) (Nat.le_of_ble_eq_true rfl) ?_
  intro p e s m args below meth c A X hA hP hD hS ls hl
  have hl : lv_has ls 4 [(0, .ref (uE 0)), (1, .int p1)] := hl
  generalize hQ : MQ below (QI G A r (gE G uE (uC 0) (uM 0) iE sE ++ gM G uM (uC 0) iM sM ++ gC G uC iC tC sC)) args s 0 0 A = QQ
  unfold f_X9_daysTillOut at hf
  refine lv_iconst (v := 1) X.hx X.hb dX9_daysTillOut_0 (by decide) ?_
  refine lv_iload_n X.hx X.hb dX9_daysTillOut_1 rfl (lv_at hl 1 rfl) ?_
  refine lv_ishl X.hx X.hb dX9_daysTillOut_2 ?_
  obtain ⟨n_1, en_1, hf⟩ := nv_i hf
  refine r_nm en_1 ?_
  refine lv_istore_n (lv' := [(2, .int n_1), (0, .ref (uE 0)), (1, .int p1)]) X.hx X.hb dX9_daysTillOut_3 rfl hl (by decide) rfl (fun ls hl => ?_)
  refine lv_iconst (v := 0) X.hx X.hb dX9_daysTillOut_4 (by decide) ?_
  refine lv_istore_n (lv' := [(3, .int 0), (2, .int n_1), (0, .ref (uE 0)), (1, .int p1)]) X.hx X.hb dX9_daysTillOut_5 rfl hl (by decide) rfl (fun ls hl => ?_)
  have hlo_2 : ∀ (k : Nat) (v2_3 : Int32) (v3_4 : Int32) (H : Heap) (locs : List Loc) (ls : Array Slot), f_X9_daysTillOut_6 N iE sE iM sM iC tC sC k v2_3 v3_4 = some r → va_P G.1 vwCl (gE G uE (uC 0) (uM 0) iE sE ++ gM G uM (uC 0) iM sM ++ gC G uC iC tC sC) H → va_D A (gE G uE (uC 0) (uM 0) iE sE ++ gM G uM (uC 0) iM sM ++ gC G uC iC tC sC) → va_S A s.heap H locs → lv_has ls 4 [(0, .ref (uE 0)), (2, .int v2_3), (3, .int v3_4)] → W p l e (RM 3) s m args below meth c H locs 0 0 QQ (F0 m 6 ls []) := by
    intro k
    induction k with
    | zero => intro v2_3 v3_4 H locs ls hf; exact absurd hf (by intro q; cases q)
    | succ k ih =>
      intro v2_3 v3_4 H locs ls hf hP hD hS hl
      unfold f_X9_daysTillOut_6 at hf
      refine lv_iload_n X.hx X.hb dX9_daysTillOut_6 rfl (lv_at hl 2 rfl) ?_
      refine lv_bipush (v := 7) X.hx X.hb dX9_daysTillOut_7 (by decide) ?_
      refine lv_icmp_ge (tgt := 37) X.hx X.hb dX9_daysTillOut_9 (by decide) (fun hc_5 => ?_) (fun hc_5 => ?_)
      · replace hf := if_t hf hc_5
        refine lv_iconst (v := (-1)) X.hx X.hb dX9_daysTillOut_37 (by decide) ?_
        cases hf
        subst hQ
        exact r_iret X hP hD hS dX9_daysTillOut_38
      · replace hf := if_f hf hc_5
        refine lv_iload_n X.hx X.hb dX9_daysTillOut_12 rfl (lv_at hl 1 rfl) ?_
        refine lv_aload_n X.hx X.hb dX9_daysTillOut_13 rfl (lv_at hl 0 rfl) ?_
        refine gf_X9_28 X hP 0 rfl (v := .ref (uC 0)) rfl dX9_daysTillOut_14 ?_
        obtain ⟨r_6, hc_7, hf⟩ := bd_i hf
        refine r_bvi (gE G uE (uC 0) (uM 0) iE sE ++ gM G uM (uC 0) iM sM) ([] : va_W) (As := []) (rest := [.int v2_3]) X sm_X9_36 (c_X1_everyone l G N uC iC tC sC hc_7) hP hD hS hA (by simp only [List.append_assoc, List.append_nil, List.nil_append]) (wo := (gE G uE (uC 0) (uM 0) iE sE ++ gM G uM (uC 0) iM sM ++ gC G uC iC tC sC)) (by simp only [List.append_assoc, List.append_nil, List.nil_append]) 0 rfl rfl rfl hl.1 (lv_room (Nat.le_of_ble_eq_true rfl)) ⟨Nat.le_of_ble_eq_true rfl, Nat.le_of_ble_eq_true rfl⟩ ⟨Nat.zero_le _, Nat.zero_le _⟩ dX9_daysTillOut_17 (fun H locs hP hD hS => ?_)
        refine lv_icmp_ne (tgt := 25) X.hx X.hb dX9_daysTillOut_20 (by decide) (fun hc_8 => ?_) (fun hc_8 => ?_)
        · replace hf := if_f hf hc_8
          refine lv_aload_n X.hx X.hb dX9_daysTillOut_25 rfl (lv_at hl 0 rfl) ?_
          refine lv_iload_n X.hx X.hb dX9_daysTillOut_26 rfl (lv_at hl 1 rfl) ?_
          obtain ⟨r_9, hc_10, hf⟩ := bd_i hf
          refine r_wvi (As := [.int v2_3]) (rest := []) X sm_X9_132 (c_X9_withKnown l G N uE uM uC iE sE iM sM iC tC sC v2_3 hc_10) hP hD hS hA 0 rfl rfl rfl hl.1 (lv_room (Nat.le_of_ble_eq_true rfl)) ⟨Nat.le_of_ble_eq_true rfl, Nat.le_of_ble_eq_true rfl⟩ ⟨Nat.zero_le _, Nat.zero_le _⟩ dX9_daysTillOut_27 (fun H locs hP hD hS => ?_)
          refine lv_istore_n (lv' := [(2, .int r_9), (0, .ref (uE 0)), (3, .int v3_4)]) X.hx X.hb dX9_daysTillOut_30 rfl hl (by decide) rfl (fun ls hl => ?_)
          refine lv_iinc (v := (v3_4 + 1)) (lv' := [(3, .int (v3_4 + 1)), (2, .int r_9), (0, .ref (uE 0))]) X.hx X.hb dX9_daysTillOut_31 hl (k := 2) rfl rfl (by decide) rfl (fun ls hl => ?_)
          refine lv_goto (tgt := 6) X.hx X.hb dX9_daysTillOut_34 (by decide) ?_
          exact ih _ _ _ _ _ hf hP hD hS (lv_sub hl [2, 1, 0] rfl)
        · replace hf := if_t hf hc_8
          refine lv_iload_n X.hx X.hb dX9_daysTillOut_23 rfl (lv_at hl 2 rfl) ?_
          cases hf
          subst hQ
          exact r_iret X hP hD hS dX9_daysTillOut_24
  exact hlo_2 N _ _ _ _ _ hf hP hD hS (lv_sub hl [2, 1, 0] rfl)

def f_X9_isLinked_8 (N : Nat) (iE : Nat → Int32) (sE : Nat → Nat → Int32) (iM : Nat → Int32) (sM : Nat → Nat → Int32) (iC : Nat → Int32) (tC : Nat → Nat → Int64) (sC : Nat → Nat → Int32) (v2 : Int32) (v3 : Int32) (K_2 : ((Int32)) → Option (Int32)) : Nat → (Int32) → (Int32) → Option (Int32)
  | 0, _, _ => none
  | k + 1, v4, v5 => (if (iC 0) ≤ v5 then K_2 v4 else bd (f_X9_withKnown N iE sE iM sM iC tC sC v4) (fun r_17 => nv (r_17 &&& (v3 ^^^ (-1))) (fun n_19 => f_X9_isLinked_8 N iE sE iM sM iC tC sC v2 v3 K_2 k n_19 (v5 + 1))))
def f_X9_isLinked (N : Nat) (iE : Nat → Int32) (sE : Nat → Nat → Int32) (iM : Nat → Int32) (sM : Nat → Nat → Int32) (iC : Nat → Int32) (tC : Nat → Nat → Int64) (sC : Nat → Nat → Int32) (p1 : Int32) (p2 : Int32) (p3 : Int32) : Option (Int32) :=
  nv ((1 : Int32) <<< (p1 &&& 31)) (fun n_1 => jn (fun (z : (Int32)) => match z with | x4_5 => bd (f_X10_has N x4_5 p2) (fun r_6 => zb r_6 (some r_6))) (fun K_2 => f_X9_isLinked_8 N iE sE iM sM iC tC sC p2 p3 K_2 N n_1 1))
set_option maxHeartbeats 4000000 in
set_option maxRecDepth 100000 in
theorem c_X9_isLinked (l : Launch) (G : GT) (N : Nat) (uE uM uC : Nat → Nat) (iE : Nat → Int32) (sE : Nat → Nat → Int32) (iM : Nat → Int32) (sM : Nat → Nat → Int32) (iC : Nat → Int32) (tC : Nat → Nat → Int64) (sC : Nat → Nat → Int32) (p1 : Int32) (p2 : Int32) (p3 : Int32) {r : Int32} (hf : f_X9_isLinked N iE sE iM sM iC tC sC p1 p2 p3 = some r) : CI l G yX9_isLinked cX9_isLinked 6 .boolean 3 [.ref (uE 0), .int p1, .int p2, .int p3] (gE G uE (uC 0) (uM 0) iE sE ++ gM G uM (uC 0) iM sM ++ gC G uC iC tC sC) r (gE G uE (uC 0) (uM 0) iE sE ++ gM G uM (uC 0) iM sM ++ gC G uC iC tC sC) := by
  refine CI.of (by decide) (Nat.le_of_ble_eq_true rfl) ?_
  intro p e s m args below meth c A X hA hP hD hS ls hl
  have hl : lv_has ls 6 [(0, .ref (uE 0)), (1, .int p1), (2, .int p2), (3, .int p3)] := hl
  generalize hQ : MQ below (QI G A r (gE G uE (uC 0) (uM 0) iE sE ++ gM G uM (uC 0) iM sM ++ gC G uC iC tC sC)) args s 0 0 A = QQ
  unfold f_X9_isLinked at hf
  refine lv_iconst (v := 1) X.hx X.hb dX9_isLinked_0 (by decide) ?_
  refine lv_iload_n X.hx X.hb dX9_isLinked_1 rfl (lv_at hl 1 rfl) ?_
  refine lv_ishl X.hx X.hb dX9_isLinked_2 ?_
  obtain ⟨n_1, en_1, hf⟩ := nv_i hf
  refine r_nm en_1 ?_
  refine lv_istore (lv' := [(4, .int n_1), (0, .ref (uE 0)), (1, .int p1), (2, .int p2), (3, .int p3)]) X.hx X.hb dX9_isLinked_3 hl (by decide) rfl (fun ls hl => ?_)
  refine lv_iconst (v := 1) X.hx X.hb dX9_isLinked_5 (by decide) ?_
  refine lv_istore (lv' := [(5, .int 1), (4, .int n_1), (0, .ref (uE 0)), (1, .int p1), (2, .int p2), (3, .int p3)]) X.hx X.hb dX9_isLinked_6 hl (by decide) rfl (fun ls hl => ?_)
  obtain ⟨K_2, eK_4, hf⟩ := jn_i hf
  have hj_3 : ∀ (x4_5 : Int32) (H : Heap) (locs : List Loc) (ls : Array Slot), K_2 x4_5 = some r → va_P G.1 vwCl (gE G uE (uC 0) (uM 0) iE sE ++ gM G uM (uC 0) iM sM ++ gC G uC iC tC sC) H → va_D A (gE G uE (uC 0) (uM 0) iE sE ++ gM G uM (uC 0) iM sM ++ gC G uC iC tC sC) → va_S A s.heap H locs → lv_has ls 6 [(2, .int p2), (4, .int x4_5)] → W p l e (RM 3) s m args below meth c H locs 0 0 QQ (F0 m 38 ls []) := by
    intro x4_5 H locs ls hf hP hD hS hl
    rw [eK_4] at hf
    try dsimp only at hf
    refine lv_iload X.hx X.hb dX9_isLinked_38 (lv_at hl 1 rfl) ?_
    refine lv_iload_n X.hx X.hb dX9_isLinked_40 rfl (lv_at hl 0 rfl) ?_
    obtain ⟨r_6, hc_7, hf⟩ := bd_i hf
    refine r_cn0 (As := [.int x4_5, .int p2]) (rest := []) X sm_X9_49 (c_X10_has l G N x4_5 p2 hc_7) hP hD hS hA rfl hl.1 (lv_room (Nat.le_of_ble_eq_true rfl)) ⟨Nat.le_of_ble_eq_true rfl, Nat.le_of_ble_eq_true rfl⟩ ⟨Nat.zero_le _, Nat.zero_le _⟩ dX9_isLinked_41 (fun H locs hP hD hS => ?_)
    obtain ⟨hb_8, hf⟩ := zb_i hf
    cases hf
    subst hQ
    exact r_zret X hP hD hS hb_8 dX9_isLinked_44
  have hlo_9 : ∀ (k : Nat) (v4_10 : Int32) (v5_11 : Int32) (H : Heap) (locs : List Loc) (ls : Array Slot), f_X9_isLinked_8 N iE sE iM sM iC tC sC p2 p3 K_2 k v4_10 v5_11 = some r → va_P G.1 vwCl (gE G uE (uC 0) (uM 0) iE sE ++ gM G uM (uC 0) iM sM ++ gC G uC iC tC sC) H → va_D A (gE G uE (uC 0) (uM 0) iE sE ++ gM G uM (uC 0) iM sM ++ gC G uC iC tC sC) → va_S A s.heap H locs → lv_has ls 6 [(0, .ref (uE 0)), (2, .int p2), (3, .int p3), (4, .int v4_10), (5, .int v5_11)] → W p l e (RM 3) s m args below meth c H locs 0 0 QQ (F0 m 8 ls []) := by
    intro k
    induction k with
    | zero => intro v4_10 v5_11 H locs ls hf; exact absurd hf (by intro q; cases q)
    | succ k ih =>
      intro v4_10 v5_11 H locs ls hf hP hD hS hl
      unfold f_X9_isLinked_8 at hf
      refine lv_iload X.hx X.hb dX9_isLinked_8 (lv_at hl 4 rfl) ?_
      refine lv_aload_n X.hx X.hb dX9_isLinked_10 rfl (lv_at hl 0 rfl) ?_
      refine gf_X9_28 X hP 0 rfl (v := .ref (uC 0)) rfl dX9_isLinked_11 ?_
      refine gf_X9_42 X hP 10 rfl (v := .int (iC 0)) rfl dX9_isLinked_14 ?_
      refine lv_icmp_ge (tgt := 38) X.hx X.hb dX9_isLinked_17 (by decide) (fun hc_12 => ?_) (fun hc_12 => ?_)
      · replace hf := if_t hf hc_12
        exact hj_3 _ _ _ _ hf hP hD hS (lv_sub hl [1, 3] rfl)
      · replace hf := if_f hf hc_12
        refine lv_aload_n X.hx X.hb dX9_isLinked_20 rfl (lv_at hl 0 rfl) ?_
        refine lv_iload X.hx X.hb dX9_isLinked_21 (lv_at hl 3 rfl) ?_
        obtain ⟨r_13, hc_14, hf⟩ := bd_i hf
        refine r_wvi (As := [.int v4_10]) (rest := []) X sm_X9_132 (c_X9_withKnown l G N uE uM uC iE sE iM sM iC tC sC v4_10 hc_14) hP hD hS hA 0 rfl rfl rfl hl.1 (lv_room (Nat.le_of_ble_eq_true rfl)) ⟨Nat.le_of_ble_eq_true rfl, Nat.le_of_ble_eq_true rfl⟩ ⟨Nat.zero_le _, Nat.zero_le _⟩ dX9_isLinked_23 (fun H locs hP hD hS => ?_)
        refine lv_iload_n X.hx X.hb dX9_isLinked_26 rfl (lv_at hl 2 rfl) ?_
        refine lv_iconst (v := (-1)) X.hx X.hb dX9_isLinked_27 (by decide) ?_
        refine lv_ixor X.hx X.hb dX9_isLinked_28 ?_
        refine lv_iand X.hx X.hb dX9_isLinked_29 ?_
        obtain ⟨n_15, en_15, hf⟩ := nv_i hf
        refine r_nm en_15 ?_
        refine lv_istore (lv' := [(4, .int n_15), (0, .ref (uE 0)), (2, .int p2), (3, .int p3), (5, .int v5_11)]) X.hx X.hb dX9_isLinked_30 hl (by decide) rfl (fun ls hl => ?_)
        refine lv_iinc (v := (v5_11 + 1)) (lv' := [(5, .int (v5_11 + 1)), (4, .int n_15), (0, .ref (uE 0)), (2, .int p2), (3, .int p3)]) X.hx X.hb dX9_isLinked_32 hl (k := 4) rfl rfl (by decide) rfl (fun ls hl => ?_)
        refine lv_goto (tgt := 8) X.hx X.hb dX9_isLinked_35 (by decide) ?_
        exact ih _ _ _ _ _ hf hP hD hS (lv_sub hl [2, 3, 4, 1, 0] rfl)
  exact hlo_9 N _ _ _ _ _ hf hP hD hS (lv_sub hl [2, 4, 5, 1, 0] rfl)

def f_X9_fewestForgotten_26 (N : Nat) (iE : Nat → Int32) (sE : Nat → Nat → Int32) (iM : Nat → Int32) (sM : Nat → Nat → Int32) (iC : Nat → Int32) (tC : Nat → Nat → Int64) (sC : Nat → Nat → Int32) (v1 : Int32) (v2 : Int32) (v3 : Int32) (K_4 : ((Int32)) → Option (Int32 × (Nat → Int32))) : Nat → (Int32) → (Int32) → Option (Int32 × (Nat → Int32))
  | 0, _, _ => none
  | k + 1, v4, v5 => (if v3 ≤ v5 then K_4 v4 else bd (f_J6_bitCount_0f7a4 N v5) (fun r_33 => bd (f_J6_bitCount_0f7a4 N v4) (fun r_35 => jn (fun (z : (Int32)) => match z with | y_40 => jn (fun (z : (Int32)) => match z with | x4_44 => f_X9_fewestForgotten_26 N iE sE iM sM iC tC sC v1 v2 v3 K_4 k x4_44 (v5 + 1)) (fun K_41 => (if (v5 &&& (v3 ^^^ (-1))) = 0 then (if y_40 = 0 then K_41 v4 else bd (f_X9_isLinked N iE sE iM sM iC tC sC v1 v2 v5) (fun r_47 => (if r_47 = 0 then K_41 v5 else K_41 v4))) else K_41 v4))) (fun K_37 => (if r_35 ≤ r_33 then K_37 0 else K_37 1)))))
def f_X9_fewestForgotten (N : Nat) (iE : Nat → Int32) (sE : Nat → Nat → Int32) (iM : Nat → Int32) (sM : Nat → Nat → Int32) (iC : Nat → Int32) (tC : Nat → Nat → Int64) (sC : Nat → Nat → Int32) (p1 : Int32) (p2 : Int32) : Option (Int32 × (Nat → Int32)) :=
  bd (f_X1_everyone N iC tC sC) (fun r_1 => nv ((r_1 &&& (((1 : Int32) <<< (p1 &&& 31)) ^^^ (-1))) &&& (((1 : Int32) <<< (p2 &&& 31)) ^^^ (-1))) (fun n_3 => jn (fun (z : (Int32)) => match z with | x4_7 => bd (f_J6_bitCount_0f7a4 N x4_7) (fun r_8 => some (r_8, (va_up iE 6 x4_7)))) (fun K_4 => f_X9_fewestForgotten_26 N iE sE iM sM iC tC sC p1 p2 n_3 K_4 N n_3 0)))
set_option maxHeartbeats 4000000 in
set_option maxRecDepth 100000 in
theorem c_X9_fewestForgotten (l : Launch) (G : GT) (N : Nat) (uE uM uC : Nat → Nat) (iE : Nat → Int32) (sE : Nat → Nat → Int32) (iM : Nat → Int32) (sM : Nat → Nat → Int32) (iC : Nat → Int32) (tC : Nat → Nat → Int64) (sC : Nat → Nat → Int32) (p1 : Int32) (p2 : Int32) {r : Int32} {iE' : Nat → Int32} (hf : f_X9_fewestForgotten N iE sE iM sM iC tC sC p1 p2 = some (r, iE')) : CI l G yX9_fewestForgotten cX9_fewestForgotten 7 .int 4 [.ref (uE 0), .int p1, .int p2] (gE G uE (uC 0) (uM 0) iE sE ++ gM G uM (uC 0) iM sM ++ gC G uC iC tC sC) r (gE G uE (uC 0) (uM 0) iE' sE ++ gM G uM (uC 0) iM sM ++ gC G uC iC tC sC) := by
  refine CI.of (by decide) (Nat.le_of_ble_eq_true rfl) ?_
  intro p e s m args below meth c A X hA hP hD hS ls hl
  have hl : lv_has ls 7 [(0, .ref (uE 0)), (1, .int p1), (2, .int p2)] := hl
  generalize hQ : MQ below (QI G A r (gE G uE (uC 0) (uM 0) iE' sE ++ gM G uM (uC 0) iM sM ++ gC G uC iC tC sC)) args s 0 0 A = QQ
  unfold f_X9_fewestForgotten at hf
  refine lv_aload_n X.hx X.hb dX9_fewestForgotten_0 rfl (lv_at hl 0 rfl) ?_
  refine gf_X9_28 X hP 0 rfl (v := .ref (uC 0)) rfl dX9_fewestForgotten_1 ?_
  obtain ⟨r_1, hc_2, hf⟩ := bd_i hf
  refine r_bvi (gE G uE (uC 0) (uM 0) iE sE ++ gM G uM (uC 0) iM sM) ([] : va_W) (As := []) (rest := []) X sm_X9_36 (c_X1_everyone l G N uC iC tC sC hc_2) hP hD hS hA (by simp only [List.append_assoc, List.append_nil, List.nil_append]) (wo := (gE G uE (uC 0) (uM 0) iE sE ++ gM G uM (uC 0) iM sM ++ gC G uC iC tC sC)) (by simp only [List.append_assoc, List.append_nil, List.nil_append]) 0 rfl rfl rfl hl.1 (lv_room (Nat.le_of_ble_eq_true rfl)) ⟨Nat.le_of_ble_eq_true rfl, Nat.le_of_ble_eq_true rfl⟩ ⟨Nat.zero_le _, Nat.zero_le _⟩ dX9_fewestForgotten_4 (fun H locs hP hD hS => ?_)
  refine lv_iconst (v := 1) X.hx X.hb dX9_fewestForgotten_7 (by decide) ?_
  refine lv_iload_n X.hx X.hb dX9_fewestForgotten_8 rfl (lv_at hl 1 rfl) ?_
  refine lv_ishl X.hx X.hb dX9_fewestForgotten_9 ?_
  refine lv_iconst (v := (-1)) X.hx X.hb dX9_fewestForgotten_10 (by decide) ?_
  refine lv_ixor X.hx X.hb dX9_fewestForgotten_11 ?_
  refine lv_iand X.hx X.hb dX9_fewestForgotten_12 ?_
  refine lv_iconst (v := 1) X.hx X.hb dX9_fewestForgotten_13 (by decide) ?_
  refine lv_iload_n X.hx X.hb dX9_fewestForgotten_14 rfl (lv_at hl 2 rfl) ?_
  refine lv_ishl X.hx X.hb dX9_fewestForgotten_15 ?_
  refine lv_iconst (v := (-1)) X.hx X.hb dX9_fewestForgotten_16 (by decide) ?_
  refine lv_ixor X.hx X.hb dX9_fewestForgotten_17 ?_
  refine lv_iand X.hx X.hb dX9_fewestForgotten_18 ?_
  obtain ⟨n_3, en_3, hf⟩ := nv_i hf
  refine r_nm en_3 ?_
  refine lv_istore_n (lv' := [(3, .int n_3), (0, .ref (uE 0)), (1, .int p1), (2, .int p2)]) X.hx X.hb dX9_fewestForgotten_19 rfl hl (by decide) rfl (fun ls hl => ?_)
  refine lv_iload_n X.hx X.hb dX9_fewestForgotten_20 rfl (lv_at hl 0 rfl) ?_
  refine lv_istore (lv' := [(4, .int n_3), (3, .int n_3), (0, .ref (uE 0)), (1, .int p1), (2, .int p2)]) X.hx X.hb dX9_fewestForgotten_21 hl (by decide) rfl (fun ls hl => ?_)
  refine lv_iconst (v := 0) X.hx X.hb dX9_fewestForgotten_23 (by decide) ?_
  refine lv_istore (lv' := [(5, .int 0), (4, .int n_3), (3, .int n_3), (0, .ref (uE 0)), (1, .int p1), (2, .int p2)]) X.hx X.hb dX9_fewestForgotten_24 hl (by decide) rfl (fun ls hl => ?_)
  obtain ⟨K_4, eK_6, hf⟩ := jn_i hf
  have hj_5 : ∀ (x4_7 : Int32) (H : Heap) (locs : List Loc) (ls : Array Slot), K_4 x4_7 = some (r, iE') → va_P G.1 vwCl (gE G uE (uC 0) (uM 0) iE sE ++ gM G uM (uC 0) iM sM ++ gC G uC iC tC sC) H → va_D A (gE G uE (uC 0) (uM 0) iE sE ++ gM G uM (uC 0) iM sM ++ gC G uC iC tC sC) → va_S A s.heap H locs → lv_has ls 7 [(0, .ref (uE 0)), (4, .int x4_7)] → W p l e (RM 4) s m args below meth c H locs 0 0 QQ (F0 m 87 ls []) := by
    intro x4_7 H locs ls hf hP hD hS hl
    rw [eK_6] at hf
    try dsimp only at hf
    refine lv_aload_n X.hx X.hb dX9_fewestForgotten_87 rfl (lv_at hl 0 rfl) ?_
    refine lv_iload X.hx X.hb dX9_fewestForgotten_88 (lv_at hl 1 rfl) ?_
    refine pf_X9_22 X hP hD hS 0 rfl rfl rfl (Nat.le_of_ble_eq_true rfl) (wo := (gE G uE (uC 0) (uM 0) (va_up iE 6 x4_7) sE ++ gM G uM (uC 0) iM sM ++ gC G uC iC tC sC)) rfl dX9_fewestForgotten_90 (fun H locs hP hD hS => ?_)
    refine lv_iload X.hx X.hb dX9_fewestForgotten_93 (lv_at hl 1 rfl) ?_
    obtain ⟨r_8, hc_9, hf⟩ := bd_i hf
    refine r_cs0 (As := [.int x4_7]) (rest := []) X sm_X9_102 (c_J6_bitCount_0f7a4 l G N x4_7 hc_9) hP hD hS hA rfl hl.1 (lv_room (Nat.le_of_ble_eq_true rfl)) ⟨Nat.le_of_ble_eq_true rfl, Nat.le_of_ble_eq_true rfl⟩ ⟨Nat.zero_le _, Nat.zero_le _⟩ dX9_fewestForgotten_95 (fun H locs hP hD hS => ?_)
    cases hf
    subst hQ
    exact r_iret X hP hD hS dX9_fewestForgotten_98
  have hlo_10 : ∀ (k : Nat) (v4_11 : Int32) (v5_12 : Int32) (H : Heap) (locs : List Loc) (ls : Array Slot), f_X9_fewestForgotten_26 N iE sE iM sM iC tC sC p1 p2 n_3 K_4 k v4_11 v5_12 = some (r, iE') → va_P G.1 vwCl (gE G uE (uC 0) (uM 0) iE sE ++ gM G uM (uC 0) iM sM ++ gC G uC iC tC sC) H → va_D A (gE G uE (uC 0) (uM 0) iE sE ++ gM G uM (uC 0) iM sM ++ gC G uC iC tC sC) → va_S A s.heap H locs → lv_has ls 7 [(0, .ref (uE 0)), (1, .int p1), (2, .int p2), (3, .int n_3), (4, .int v4_11), (5, .int v5_12)] → W p l e (RM 4) s m args below meth c H locs 0 0 QQ (F0 m 26 ls []) := by
    intro k
    induction k with
    | zero => intro v4_11 v5_12 H locs ls hf; exact absurd hf (by intro q; cases q)
    | succ k ih =>
      intro v4_11 v5_12 H locs ls hf hP hD hS hl
      unfold f_X9_fewestForgotten_26 at hf
      refine lv_iload X.hx X.hb dX9_fewestForgotten_26 (lv_at hl 5 rfl) ?_
      refine lv_iload_n X.hx X.hb dX9_fewestForgotten_28 rfl (lv_at hl 3 rfl) ?_
      refine lv_icmp_ge (tgt := 87) X.hx X.hb dX9_fewestForgotten_29 (by decide) (fun hc_13 => ?_) (fun hc_13 => ?_)
      · replace hf := if_t hf hc_13
        exact hj_5 _ _ _ _ hf hP hD hS (lv_sub hl [0, 4] rfl)
      · replace hf := if_f hf hc_13
        refine lv_iload X.hx X.hb dX9_fewestForgotten_32 (lv_at hl 5 rfl) ?_
        obtain ⟨r_14, hc_15, hf⟩ := bd_i hf
        refine r_cs0 (As := [.int v5_12]) (rest := []) X sm_X9_102 (c_J6_bitCount_0f7a4 l G N v5_12 hc_15) hP hD hS hA rfl hl.1 (lv_room (Nat.le_of_ble_eq_true rfl)) ⟨Nat.le_of_ble_eq_true rfl, Nat.le_of_ble_eq_true rfl⟩ ⟨Nat.zero_le _, Nat.zero_le _⟩ dX9_fewestForgotten_34 (fun H locs hP hD hS => ?_)
        refine lv_iload X.hx X.hb dX9_fewestForgotten_37 (lv_at hl 4 rfl) ?_
        obtain ⟨r_16, hc_17, hf⟩ := bd_i hf
        refine r_cs0 (As := [.int v4_11]) (rest := [.int r_14]) X sm_X9_102 (c_J6_bitCount_0f7a4 l G N v4_11 hc_17) hP hD hS hA rfl hl.1 (lv_room (Nat.le_of_ble_eq_true rfl)) ⟨Nat.le_of_ble_eq_true rfl, Nat.le_of_ble_eq_true rfl⟩ ⟨Nat.zero_le _, Nat.zero_le _⟩ dX9_fewestForgotten_39 (fun H locs hP hD hS => ?_)
        obtain ⟨K_18, eK_20, hf⟩ := jn_i hf
        have hj_19 : ∀ (y_21 : Int32) (H : Heap) (locs : List Loc) (ls : Array Slot), K_18 y_21 = some (r, iE') → va_P G.1 vwCl (gE G uE (uC 0) (uM 0) iE sE ++ gM G uM (uC 0) iM sM ++ gC G uC iC tC sC) H → va_D A (gE G uE (uC 0) (uM 0) iE sE ++ gM G uM (uC 0) iM sM ++ gC G uC iC tC sC) → va_S A s.heap H locs → lv_has ls 7 [(0, .ref (uE 0)), (1, .int p1), (2, .int p2), (3, .int n_3), (4, .int v4_11), (5, .int v5_12)] → W p l e (RM 4) s m args below meth c H locs 0 0 QQ (F0 m 50 ls [.int y_21]) := by
          intro y_21 H locs ls hf hP hD hS hl
          rw [eK_20] at hf
          try dsimp only at hf
          refine lv_istore (lv' := [(6, .int y_21), (0, .ref (uE 0)), (1, .int p1), (2, .int p2), (3, .int n_3), (4, .int v4_11), (5, .int v5_12)]) X.hx X.hb dX9_fewestForgotten_50 hl (by decide) rfl (fun ls hl => ?_)
          refine lv_iload X.hx X.hb dX9_fewestForgotten_52 (lv_at hl 6 rfl) ?_
          refine lv_iload_n X.hx X.hb dX9_fewestForgotten_54 rfl (lv_at hl 4 rfl) ?_
          refine lv_iconst (v := (-1)) X.hx X.hb dX9_fewestForgotten_55 (by decide) ?_
          refine lv_ixor X.hx X.hb dX9_fewestForgotten_56 ?_
          refine lv_iand X.hx X.hb dX9_fewestForgotten_57 ?_
          obtain ⟨K_22, eK_24, hf⟩ := jn_i hf
          have hj_23 : ∀ (x4_25 : Int32) (H : Heap) (locs : List Loc) (ls : Array Slot), K_22 x4_25 = some (r, iE') → va_P G.1 vwCl (gE G uE (uC 0) (uM 0) iE sE ++ gM G uM (uC 0) iM sM ++ gC G uC iC tC sC) H → va_D A (gE G uE (uC 0) (uM 0) iE sE ++ gM G uM (uC 0) iM sM ++ gC G uC iC tC sC) → va_S A s.heap H locs → lv_has ls 7 [(0, .ref (uE 0)), (1, .int p1), (2, .int p2), (3, .int n_3), (4, .int x4_25), (5, .int v5_12)] → W p l e (RM 4) s m args below meth c H locs 0 0 QQ (F0 m 81 ls []) := by
            intro x4_25 H locs ls hf hP hD hS hl
            rw [eK_24] at hf
            try dsimp only at hf
            refine lv_iinc (v := (v5_12 + 1)) (lv' := [(5, .int (v5_12 + 1)), (0, .ref (uE 0)), (1, .int p1), (2, .int p2), (3, .int n_3), (4, .int x4_25)]) X.hx X.hb dX9_fewestForgotten_81 hl (k := 5) rfl rfl (by decide) rfl (fun ls hl => ?_)
            refine lv_goto (tgt := 26) X.hx X.hb dX9_fewestForgotten_84 (by decide) ?_
            exact ih _ _ _ _ _ hf hP hD hS (lv_sub hl [1, 2, 3, 4, 5, 0] rfl)
          refine lv_if_ne (tgt := 81) X.hx X.hb dX9_fewestForgotten_58 (by decide) (fun hc_26 => ?_) (fun hc_26 => ?_)
          · replace hf := if_f hf hc_26
            exact hj_23 _ _ _ _ hf hP hD hS (lv_sub hl [1, 2, 3, 4, 5, 6] rfl)
          · replace hf := if_t hf hc_26
            refine lv_iload X.hx X.hb dX9_fewestForgotten_61 (lv_at hl 0 rfl) ?_
            refine lv_if_eq (tgt := 81) X.hx X.hb dX9_fewestForgotten_63 (by decide) (fun hc_27 => ?_) (fun hc_27 => ?_)
            · replace hf := if_t hf hc_27
              exact hj_23 _ _ _ _ hf hP hD hS (lv_sub hl [1, 2, 3, 4, 5, 6] rfl)
            · replace hf := if_f hf hc_27
              refine lv_aload_n X.hx X.hb dX9_fewestForgotten_66 rfl (lv_at hl 1 rfl) ?_
              refine lv_iload_n X.hx X.hb dX9_fewestForgotten_67 rfl (lv_at hl 2 rfl) ?_
              refine lv_iload_n X.hx X.hb dX9_fewestForgotten_68 rfl (lv_at hl 3 rfl) ?_
              refine lv_iload X.hx X.hb dX9_fewestForgotten_69 (lv_at hl 6 rfl) ?_
              obtain ⟨r_28, hc_29, hf⟩ := bd_i hf
              refine r_wvi (As := [.int p1, .int p2, .int v5_12]) (rest := []) X sm_X9_135 (c_X9_isLinked l G N uE uM uC iE sE iM sM iC tC sC p1 p2 v5_12 hc_29) hP hD hS hA 0 rfl rfl rfl hl.1 (lv_room (Nat.le_of_ble_eq_true rfl)) ⟨Nat.le_of_ble_eq_true rfl, Nat.le_of_ble_eq_true rfl⟩ ⟨Nat.zero_le _, Nat.zero_le _⟩ dX9_fewestForgotten_71 (fun H locs hP hD hS => ?_)
              refine lv_if_ne (tgt := 81) X.hx X.hb dX9_fewestForgotten_74 (by decide) (fun hc_30 => ?_) (fun hc_30 => ?_)
              · replace hf := if_f hf hc_30
                exact hj_23 _ _ _ _ hf hP hD hS (lv_sub hl [1, 2, 3, 4, 5, 6] rfl)
              · replace hf := if_t hf hc_30
                refine lv_iload X.hx X.hb dX9_fewestForgotten_77 (lv_at hl 6 rfl) ?_
                refine lv_istore (lv' := [(4, .int v5_12), (6, .int y_21), (0, .ref (uE 0)), (1, .int p1), (2, .int p2), (3, .int n_3), (5, .int v5_12)]) X.hx X.hb dX9_fewestForgotten_79 hl (by decide) rfl (fun ls hl => ?_)
                exact hj_23 _ _ _ _ hf hP hD hS (lv_sub hl [2, 3, 4, 5, 0, 6] rfl)
        refine lv_icmp_ge (tgt := 49) X.hx X.hb dX9_fewestForgotten_42 (by decide) (fun hc_31 => ?_) (fun hc_31 => ?_)
        · replace hf := if_t hf hc_31
          refine lv_iconst (v := 0) X.hx X.hb dX9_fewestForgotten_49 (by decide) ?_
          exact hj_19 _ _ _ _ hf hP hD hS (lv_sub hl [0, 1, 2, 3, 4, 5] rfl)
        · replace hf := if_f hf hc_31
          refine lv_iconst (v := 1) X.hx X.hb dX9_fewestForgotten_45 (by decide) ?_
          refine lv_goto (tgt := 50) X.hx X.hb dX9_fewestForgotten_46 (by decide) ?_
          exact hj_19 _ _ _ _ hf hP hD hS (lv_sub hl [0, 1, 2, 3, 4, 5] rfl)
  exact hlo_10 N _ _ _ _ _ hf hP hD hS (lv_sub hl [3, 4, 5, 2, 1, 0] rfl)

def f_X9_loneliest_7 (N : Nat) (iE : Nat → Int32) (sE : Nat → Nat → Int32) (iM : Nat → Int32) (sM : Nat → Nat → Int32) (iC : Nat → Int32) (tC : Nat → Nat → Int64) (sC : Nat → Nat → Int32) : Nat → (Int32) → (Int32) → (Int32) → Option (Int32)
  | 0, _, _, _ => none
  | k + 1, v1, v2, v3 => (if (iC 0) ≤ v3 then some v1 else bd (f_X4_known N iM sM iC tC sC v3) (fun r_17 => bd (f_J6_bitCount_0f7a4 N r_17) (fun r_19 => jn (fun (z : (Int32) × (Int32)) => match z with | (x1_24, x2_25) => f_X9_loneliest_7 N iE sE iM sM iC tC sC k x1_24 x2_25 (v3 + 1)) (fun K_21 => (if v2 ≤ r_19 then K_21 (v1, v2) else K_21 (v3, r_19))))))
def f_X9_loneliest (N : Nat) (iE : Nat → Int32) (sE : Nat → Nat → Int32) (iM : Nat → Int32) (sM : Nat → Nat → Int32) (iC : Nat → Int32) (tC : Nat → Nat → Int64) (sC : Nat → Nat → Int32) : Option (Int32) :=
  f_X9_loneliest_7 N iE sE iM sM iC tC sC N (-1) 7 0
set_option maxHeartbeats 4000000 in
set_option maxRecDepth 100000 in
theorem c_X9_loneliest (l : Launch) (G : GT) (N : Nat) (uE uM uC : Nat → Nat) (iE : Nat → Int32) (sE : Nat → Nat → Int32) (iM : Nat → Int32) (sM : Nat → Nat → Int32) (iC : Nat → Int32) (tC : Nat → Nat → Int64) (sC : Nat → Nat → Int32) {r : Int32} (hf : f_X9_loneliest N iE sE iM sM iC tC sC = some r) : CI l G yX9_loneliest cX9_loneliest 5 .int 2 [.ref (uE 0)] (gE G uE (uC 0) (uM 0) iE sE ++ gM G uM (uC 0) iM sM ++ gC G uC iC tC sC) r (gE G uE (uC 0) (uM 0) iE sE ++ gM G uM (uC 0) iM sM ++ gC G uC iC tC sC) := by
  refine CI.of (by decide) (Nat.le_of_ble_eq_true rfl) ?_
  intro p e s m args below meth c A X hA hP hD hS ls hl
  have hl : lv_has ls 5 [(0, .ref (uE 0))] := hl
  generalize hQ : MQ below (QI G A r (gE G uE (uC 0) (uM 0) iE sE ++ gM G uM (uC 0) iM sM ++ gC G uC iC tC sC)) args s 0 0 A = QQ
  unfold f_X9_loneliest at hf
  refine lv_iconst (v := (-1)) X.hx X.hb dX9_loneliest_0 (by decide) ?_
  refine lv_istore_n (lv' := [(1, .int (-1)), (0, .ref (uE 0))]) X.hx X.hb dX9_loneliest_1 rfl hl (by decide) rfl (fun ls hl => ?_)
  refine lv_bipush (v := 7) X.hx X.hb dX9_loneliest_2 (by decide) ?_
  refine lv_istore_n (lv' := [(2, .int 7), (1, .int (-1)), (0, .ref (uE 0))]) X.hx X.hb dX9_loneliest_4 rfl hl (by decide) rfl (fun ls hl => ?_)
  refine lv_iconst (v := 0) X.hx X.hb dX9_loneliest_5 (by decide) ?_
  refine lv_istore_n (lv' := [(3, .int 0), (2, .int 7), (1, .int (-1)), (0, .ref (uE 0))]) X.hx X.hb dX9_loneliest_6 rfl hl (by decide) rfl (fun ls hl => ?_)
  have hlo_1 : ∀ (k : Nat) (v1_2 : Int32) (v2_3 : Int32) (v3_4 : Int32) (H : Heap) (locs : List Loc) (ls : Array Slot), f_X9_loneliest_7 N iE sE iM sM iC tC sC k v1_2 v2_3 v3_4 = some r → va_P G.1 vwCl (gE G uE (uC 0) (uM 0) iE sE ++ gM G uM (uC 0) iM sM ++ gC G uC iC tC sC) H → va_D A (gE G uE (uC 0) (uM 0) iE sE ++ gM G uM (uC 0) iM sM ++ gC G uC iC tC sC) → va_S A s.heap H locs → lv_has ls 5 [(0, .ref (uE 0)), (1, .int v1_2), (2, .int v2_3), (3, .int v3_4)] → W p l e (RM 2) s m args below meth c H locs 0 0 QQ (F0 m 7 ls []) := by
    intro k
    induction k with
    | zero => intro v1_2 v2_3 v3_4 H locs ls hf; exact absurd hf (by intro q; cases q)
    | succ k ih =>
      intro v1_2 v2_3 v3_4 H locs ls hf hP hD hS hl
      unfold f_X9_loneliest_7 at hf
      refine lv_iload_n X.hx X.hb dX9_loneliest_7 rfl (lv_at hl 3 rfl) ?_
      refine lv_aload_n X.hx X.hb dX9_loneliest_8 rfl (lv_at hl 0 rfl) ?_
      refine gf_X9_28 X hP 0 rfl (v := .ref (uC 0)) rfl dX9_loneliest_9 ?_
      refine gf_X9_42 X hP 10 rfl (v := .int (iC 0)) rfl dX9_loneliest_12 ?_
      refine lv_icmp_ge (tgt := 48) X.hx X.hb dX9_loneliest_15 (by decide) (fun hc_5 => ?_) (fun hc_5 => ?_)
      · replace hf := if_t hf hc_5
        refine lv_iload_n X.hx X.hb dX9_loneliest_48 rfl (lv_at hl 1 rfl) ?_
        cases hf
        subst hQ
        exact r_iret X hP hD hS dX9_loneliest_49
      · replace hf := if_f hf hc_5
        refine lv_aload_n X.hx X.hb dX9_loneliest_18 rfl (lv_at hl 0 rfl) ?_
        refine gf_X9_32 X hP 0 rfl (v := .ref (uM 0)) rfl dX9_loneliest_19 ?_
        refine lv_iload_n X.hx X.hb dX9_loneliest_22 rfl (lv_at hl 3 rfl) ?_
        obtain ⟨r_6, hc_7, hf⟩ := bd_i hf
        refine r_bvi (gE G uE (uC 0) (uM 0) iE sE) ([] : va_W) (As := [.int v3_4]) (rest := []) X sm_X9_129 (c_X4_known l G N uM uC iM sM iC tC sC v3_4 hc_7) hP hD hS hA (by simp only [List.append_assoc, List.append_nil, List.nil_append]) (wo := (gE G uE (uC 0) (uM 0) iE sE ++ gM G uM (uC 0) iM sM ++ gC G uC iC tC sC)) (by simp only [List.append_assoc, List.append_nil, List.nil_append]) 0 rfl rfl rfl hl.1 (lv_room (Nat.le_of_ble_eq_true rfl)) ⟨Nat.le_of_ble_eq_true rfl, Nat.le_of_ble_eq_true rfl⟩ ⟨Nat.zero_le _, Nat.zero_le _⟩ dX9_loneliest_23 (fun H locs hP hD hS => ?_)
        obtain ⟨r_8, hc_9, hf⟩ := bd_i hf
        refine r_cs0 (As := [.int r_6]) (rest := []) X sm_X9_102 (c_J6_bitCount_0f7a4 l G N r_6 hc_9) hP hD hS hA rfl hl.1 (lv_room (Nat.le_of_ble_eq_true rfl)) ⟨Nat.le_of_ble_eq_true rfl, Nat.le_of_ble_eq_true rfl⟩ ⟨Nat.zero_le _, Nat.zero_le _⟩ dX9_loneliest_26 (fun H locs hP hD hS => ?_)
        refine lv_istore (lv' := [(4, .int r_8), (0, .ref (uE 0)), (1, .int v1_2), (2, .int v2_3), (3, .int v3_4)]) X.hx X.hb dX9_loneliest_29 hl (by decide) rfl (fun ls hl => ?_)
        refine lv_iload X.hx X.hb dX9_loneliest_31 (lv_at hl 0 rfl) ?_
        refine lv_iload_n X.hx X.hb dX9_loneliest_33 rfl (lv_at hl 3 rfl) ?_
        obtain ⟨K_10, eK_12, hf⟩ := jn_i hf
        have hj_11 : ∀ (x1_13 : Int32) (x2_14 : Int32) (H : Heap) (locs : List Loc) (ls : Array Slot), K_10 (x1_13, x2_14) = some r → va_P G.1 vwCl (gE G uE (uC 0) (uM 0) iE sE ++ gM G uM (uC 0) iM sM ++ gC G uC iC tC sC) H → va_D A (gE G uE (uC 0) (uM 0) iE sE ++ gM G uM (uC 0) iM sM ++ gC G uC iC tC sC) → va_S A s.heap H locs → lv_has ls 5 [(0, .ref (uE 0)), (1, .int x1_13), (2, .int x2_14), (3, .int v3_4)] → W p l e (RM 2) s m args below meth c H locs 0 0 QQ (F0 m 42 ls []) := by
          intro x1_13 x2_14 H locs ls hf hP hD hS hl
          rw [eK_12] at hf
          try dsimp only at hf
          refine lv_iinc (v := (v3_4 + 1)) (lv' := [(3, .int (v3_4 + 1)), (0, .ref (uE 0)), (1, .int x1_13), (2, .int x2_14)]) X.hx X.hb dX9_loneliest_42 hl (k := 3) rfl rfl (by decide) rfl (fun ls hl => ?_)
          refine lv_goto (tgt := 7) X.hx X.hb dX9_loneliest_45 (by decide) ?_
          exact ih _ _ _ _ _ _ hf hP hD hS (lv_sub hl [1, 2, 3, 0] rfl)
        refine lv_icmp_ge (tgt := 42) X.hx X.hb dX9_loneliest_34 (by decide) (fun hc_15 => ?_) (fun hc_15 => ?_)
        · replace hf := if_t hf hc_15
          exact hj_11 _ _ _ _ _ hf hP hD hS (lv_sub hl [1, 2, 3, 4] rfl)
        · replace hf := if_f hf hc_15
          refine lv_iload X.hx X.hb dX9_loneliest_37 (lv_at hl 0 rfl) ?_
          refine lv_istore_n (lv' := [(2, .int r_8), (4, .int r_8), (0, .ref (uE 0)), (1, .int v1_2), (3, .int v3_4)]) X.hx X.hb dX9_loneliest_39 rfl hl (by decide) rfl (fun ls hl => ?_)
          refine lv_iload_n X.hx X.hb dX9_loneliest_40 rfl (lv_at hl 4 rfl) ?_
          refine lv_istore_n (lv' := [(1, .int v3_4), (2, .int r_8), (4, .int r_8), (0, .ref (uE 0)), (3, .int v3_4)]) X.hx X.hb dX9_loneliest_41 rfl hl (by decide) rfl (fun ls hl => ?_)
          exact hj_11 _ _ _ _ _ hf hP hD hS (lv_sub hl [3, 0, 1, 4] rfl)
  exact hlo_1 N _ _ _ _ _ _ hf hP hD hS (lv_sub hl [3, 2, 1, 0] rfl)

def f_X9_maskedBy_40 (N : Nat) (iE : Nat → Int32) (sE : Nat → Nat → Int32) (iM : Nat → Int32) (sM : Nat → Nat → Int32) (iC : Nat → Int32) (tC : Nat → Nat → Int64) (sC : Nat → Nat → Int32) (sT : Nat → Nat → Int32) (iT : Nat → Int32) (jT : Nat → Int64) (v2 : Int32) (K_6 : ((Int32)) → Option (Int32 × (Nat → Int32))) : Nat → (Int32) → (Int32) → Option (Int32 × (Nat → Int32))
  | 0, _, _ => none
  | k + 1, v3, v4 => (if v2 ≤ v4 then K_6 v3 else ck ((2 : Int32) * v4) 940 (nv ((sT 0) (ix ((2 : Int32) * v4))) (fun n_37 => ck (((2 : Int32) * v4) + 1) 940 (nv ((sT 0) (ix (((2 : Int32) * v4) + 1))) (fun n_39 => bd (f_X1_isPerson N iC tC sC n_37) (fun r_40 => (if r_40 = 0 then some ((-1), iE) else (if n_39 ≤ 1 then jn (fun (z : (Int32)) => match z with | y_47 => nv ((v3 &&& y_47) &&& (((1 : Int32) <<< (n_37 &&& 31)) ^^^ (-1))) (fun n_48 => f_X9_maskedBy_40 N iE sE iM sM iC tC sC sT iT jT v2 K_6 k n_48 (v4 + 1))) (fun K_44 => (if n_39 = 1 then bd (f_X4_dealable N iM sM iC tC sC n_37) (fun r_52 => K_44 r_52) else bd (f_X4_dealable N iM sM iC tC sC n_37) (fun r_50 => K_44 (r_50 ^^^ (-1))))) else some ((-1), iE)))))))))
def f_X9_maskedBy (N : Nat) (iE : Nat → Int32) (sE : Nat → Nat → Int32) (iM : Nat → Int32) (sM : Nat → Nat → Int32) (iC : Nat → Int32) (tC : Nat → Nat → Int64) (sC : Nat → Nat → Int32) (sT : Nat → Nat → Int32) (iT : Nat → Int32) (jT : Nat → Int64) : Option (Int32 × (Nat → Int32)) :=
  (if ((iT 1) - (iT 1) / 2 * 2) = 0 then (if ((iT 1) / 2) < 1 then some ((-1), iE) else (if ((iT 1) / 2) ≤ 8 then bd (f_X1_everyone N iC tC sC) (fun r_4 => jn (fun (z : (Int32)) => match z with | x3_9 => (if x3_9 ≤ 0 then some (x3_9, iE) else bd (f_X9_bestToAsk N iE sE iM sM iC tC sC x3_9) (fun r_11 => some (x3_9, (va_up iE 2 r_11))))) (fun K_6 => f_X9_maskedBy_40 N iE sE iM sM iC tC sC sT iT jT ((iT 1) / 2) K_6 N r_4 0)) else some ((-1), iE))) else some ((-1), iE))
set_option maxHeartbeats 4000000 in
set_option maxRecDepth 100000 in
theorem c_X9_maskedBy (l : Launch) (G : GT) (N : Nat) (uE uM uC uT : Nat → Nat) (iE : Nat → Int32) (sE : Nat → Nat → Int32) (iM : Nat → Int32) (sM : Nat → Nat → Int32) (iC : Nat → Int32) (tC : Nat → Nat → Int64) (sC : Nat → Nat → Int32) (sT : Nat → Nat → Int32) (iT : Nat → Int32) (jT : Nat → Int64) {r : Int32} {iE' : Nat → Int32} (hf : f_X9_maskedBy N iE sE iM sM iC tC sC sT iT jT = some (r, iE')) : CI l G yX9_maskedBy cX9_maskedBy 7 .int 4 [.ref (uE 0), .ref (uT 0)] (gE G uE (uC 0) (uM 0) iE sE ++ gM G uM (uC 0) iM sM ++ gC G uC iC tC sC ++ gT G uT sT iT jT) r (gE G uE (uC 0) (uM 0) iE' sE ++ gM G uM (uC 0) iM sM ++ gC G uC iC tC sC ++ gT G uT sT iT jT) := by
  refine CI.of (by decide) (Nat.le_of_ble_eq_true rfl) ?_
  intro p e s m args below meth c A X hA hP hD hS ls hl
  have hl : lv_has ls 7 [(0, .ref (uE 0)), (1, .ref (uT 0))] := hl
  generalize hQ : MQ below (QI G A r (gE G uE (uC 0) (uM 0) iE' sE ++ gM G uM (uC 0) iM sM ++ gC G uC iC tC sC ++ gT G uT sT iT jT)) args s 0 0 A = QQ
  unfold f_X9_maskedBy at hf
  refine lv_aload_n X.hx X.hb dX9_maskedBy_0 rfl (lv_at hl 1 rfl) ?_
  refine gf_X9_87 X hP 18 rfl (v := .int (iT 1)) rfl dX9_maskedBy_1 ?_
  refine lv_iconst (v := 2) X.hx X.hb dX9_maskedBy_4 (by decide) ?_
  refine lv_idiv X.hx X.hb dX9_maskedBy_5 (by decide) ?_
  refine lv_istore_n (lv' := [(2, .int ((iT 1) / 2)), (0, .ref (uE 0)), (1, .ref (uT 0))]) X.hx X.hb dX9_maskedBy_6 rfl hl (by decide) rfl (fun ls hl => ?_)
  refine lv_aload_n X.hx X.hb dX9_maskedBy_7 rfl (lv_at hl 2 rfl) ?_
  refine gf_X9_87 X hP 18 rfl (v := .int (iT 1)) rfl dX9_maskedBy_8 ?_
  refine lv_iconst (v := 2) X.hx X.hb dX9_maskedBy_11 (by decide) ?_
  refine lv_irem X.hx X.hb dX9_maskedBy_12 (by decide) ?_
  refine lv_if_ne (tgt := 27) X.hx X.hb dX9_maskedBy_13 (by decide) (fun hc_1 => ?_) (fun hc_1 => ?_)
  · replace hf := if_f hf hc_1
    refine lv_iconst (v := (-1)) X.hx X.hb dX9_maskedBy_27 (by decide) ?_
    cases hf
    subst hQ
    exact r_iret X hP hD hS dX9_maskedBy_28
  · replace hf := if_t hf hc_1
    refine lv_iload_n X.hx X.hb dX9_maskedBy_16 rfl (lv_at hl 0 rfl) ?_
    refine lv_iconst (v := 1) X.hx X.hb dX9_maskedBy_17 (by decide) ?_
    refine lv_icmp_lt (tgt := 27) X.hx X.hb dX9_maskedBy_18 (by decide) (fun hc_2 => ?_) (fun hc_2 => ?_)
    · replace hf := if_t hf hc_2
      refine lv_iconst (v := (-1)) X.hx X.hb dX9_maskedBy_27 (by decide) ?_
      cases hf
      subst hQ
      exact r_iret X hP hD hS dX9_maskedBy_28
    · replace hf := if_f hf hc_2
      refine lv_iload_n X.hx X.hb dX9_maskedBy_21 rfl (lv_at hl 0 rfl) ?_
      refine lv_bipush (v := 8) X.hx X.hb dX9_maskedBy_22 (by decide) ?_
      refine lv_icmp_le (tgt := 29) X.hx X.hb dX9_maskedBy_24 (by decide) (fun hc_3 => ?_) (fun hc_3 => ?_)
      · replace hf := if_t hf hc_3
        refine lv_aload_n X.hx X.hb dX9_maskedBy_29 rfl (lv_at hl 1 rfl) ?_
        refine gf_X9_28 X hP 0 rfl (v := .ref (uC 0)) rfl dX9_maskedBy_30 ?_
        obtain ⟨r_4, hc_5, hf⟩ := bd_i hf
        refine r_bvi (gE G uE (uC 0) (uM 0) iE sE ++ gM G uM (uC 0) iM sM) (gT G uT sT iT jT) (As := []) (rest := []) X sm_X9_36 (c_X1_everyone l G N uC iC tC sC hc_5) hP hD hS hA (by simp only [List.append_assoc, List.append_nil, List.nil_append]) (wo := (gE G uE (uC 0) (uM 0) iE sE ++ gM G uM (uC 0) iM sM ++ gC G uC iC tC sC ++ gT G uT sT iT jT)) (by simp only [List.append_assoc, List.append_nil, List.nil_append]) 0 rfl rfl rfl hl.1 (lv_room (Nat.le_of_ble_eq_true rfl)) ⟨Nat.le_of_ble_eq_true rfl, Nat.le_of_ble_eq_true rfl⟩ ⟨Nat.zero_le _, Nat.zero_le _⟩ dX9_maskedBy_33 (fun H locs hP hD hS => ?_)
        refine lv_istore_n (lv' := [(3, .int r_4), (2, .int ((iT 1) / 2)), (0, .ref (uE 0)), (1, .ref (uT 0))]) X.hx X.hb dX9_maskedBy_36 rfl hl (by decide) rfl (fun ls hl => ?_)
        refine lv_iconst (v := 0) X.hx X.hb dX9_maskedBy_37 (by decide) ?_
        refine lv_istore (lv' := [(4, .int 0), (3, .int r_4), (2, .int ((iT 1) / 2)), (0, .ref (uE 0)), (1, .ref (uT 0))]) X.hx X.hb dX9_maskedBy_38 hl (by decide) rfl (fun ls hl => ?_)
        obtain ⟨K_6, eK_8, hf⟩ := jn_i hf
        have hj_7 : ∀ (x3_9 : Int32) (H : Heap) (locs : List Loc) (ls : Array Slot), K_6 x3_9 = some (r, iE') → va_P G.1 vwCl (gE G uE (uC 0) (uM 0) iE sE ++ gM G uM (uC 0) iM sM ++ gC G uC iC tC sC ++ gT G uT sT iT jT) H → va_D A (gE G uE (uC 0) (uM 0) iE sE ++ gM G uM (uC 0) iM sM ++ gC G uC iC tC sC ++ gT G uT sT iT jT) → va_S A s.heap H locs → lv_has ls 7 [(0, .ref (uE 0)), (3, .int x3_9)] → W p l e (RM 4) s m args below meth c H locs 0 0 QQ (F0 m 137 ls []) := by
          intro x3_9 H locs ls hf hP hD hS hl
          rw [eK_8] at hf
          try dsimp only at hf
          refine lv_iload_n X.hx X.hb dX9_maskedBy_137 rfl (lv_at hl 1 rfl) ?_
          refine lv_if_le (tgt := 150) X.hx X.hb dX9_maskedBy_138 (by decide) (fun hc_10 => ?_) (fun hc_10 => ?_)
          · replace hf := if_t hf hc_10
            refine lv_iload_n X.hx X.hb dX9_maskedBy_150 rfl (lv_at hl 1 rfl) ?_
            cases hf
            subst hQ
            exact r_iret X hP hD hS dX9_maskedBy_151
          · replace hf := if_f hf hc_10
            refine lv_aload_n X.hx X.hb dX9_maskedBy_141 rfl (lv_at hl 0 rfl) ?_
            refine lv_aload_n X.hx X.hb dX9_maskedBy_142 rfl (lv_at hl 0 rfl) ?_
            refine lv_iload_n X.hx X.hb dX9_maskedBy_143 rfl (lv_at hl 1 rfl) ?_
            obtain ⟨r_11, hc_12, hf⟩ := bd_i hf
            refine r_bvi ([] : va_W) (gT G uT sT iT jT) (As := [.int x3_9]) (rest := [.ref (uE 0)]) X sm_X9_99 (c_X9_bestToAsk l G N uE uM uC iE sE iM sM iC tC sC x3_9 hc_12) hP hD hS hA (by simp only [List.append_assoc, List.append_nil, List.nil_append]) (wo := (gE G uE (uC 0) (uM 0) iE sE ++ gM G uM (uC 0) iM sM ++ gC G uC iC tC sC ++ gT G uT sT iT jT)) (by simp only [List.append_assoc, List.append_nil, List.nil_append]) 0 rfl rfl rfl hl.1 (lv_room (Nat.le_of_ble_eq_true rfl)) ⟨Nat.le_of_ble_eq_true rfl, Nat.le_of_ble_eq_true rfl⟩ ⟨Nat.zero_le _, Nat.zero_le _⟩ dX9_maskedBy_144 (fun H locs hP hD hS => ?_)
            refine pf_X9_9 X hP hD hS 0 rfl rfl rfl (Nat.le_of_ble_eq_true rfl) (wo := (gE G uE (uC 0) (uM 0) (va_up iE 2 r_11) sE ++ gM G uM (uC 0) iM sM ++ gC G uC iC tC sC ++ gT G uT sT iT jT)) rfl dX9_maskedBy_147 (fun H locs hP hD hS => ?_)
            refine lv_iload_n X.hx X.hb dX9_maskedBy_150 rfl (lv_at hl 1 rfl) ?_
            cases hf
            subst hQ
            exact r_iret X hP hD hS dX9_maskedBy_151
        have hlo_13 : ∀ (k : Nat) (v3_14 : Int32) (v4_15 : Int32) (H : Heap) (locs : List Loc) (ls : Array Slot), f_X9_maskedBy_40 N iE sE iM sM iC tC sC sT iT jT ((iT 1) / 2) K_6 k v3_14 v4_15 = some (r, iE') → va_P G.1 vwCl (gE G uE (uC 0) (uM 0) iE sE ++ gM G uM (uC 0) iM sM ++ gC G uC iC tC sC ++ gT G uT sT iT jT) H → va_D A (gE G uE (uC 0) (uM 0) iE sE ++ gM G uM (uC 0) iM sM ++ gC G uC iC tC sC ++ gT G uT sT iT jT) → va_S A s.heap H locs → lv_has ls 7 [(0, .ref (uE 0)), (1, .ref (uT 0)), (2, .int ((iT 1) / 2)), (3, .int v3_14), (4, .int v4_15)] → W p l e (RM 4) s m args below meth c H locs 0 0 QQ (F0 m 40 ls []) := by
          intro k
          induction k with
          | zero => intro v3_14 v4_15 H locs ls hf; exact absurd hf (by intro q; cases q)
          | succ k ih =>
            intro v3_14 v4_15 H locs ls hf hP hD hS hl
            unfold f_X9_maskedBy_40 at hf
            refine lv_iload X.hx X.hb dX9_maskedBy_40 (lv_at hl 4 rfl) ?_
            refine lv_iload_n X.hx X.hb dX9_maskedBy_42 rfl (lv_at hl 2 rfl) ?_
            refine lv_icmp_ge (tgt := 137) X.hx X.hb dX9_maskedBy_43 (by decide) (fun hc_16 => ?_) (fun hc_16 => ?_)
            · replace hf := if_t hf hc_16
              exact hj_7 _ _ _ _ hf hP hD hS (lv_sub hl [0, 3] rfl)
            · replace hf := if_f hf hc_16
              refine lv_aload_n X.hx X.hb dX9_maskedBy_46 rfl (lv_at hl 1 rfl) ?_
              refine gf_X9_92 X hP 18 rfl (v := .ref (uT 1)) rfl dX9_maskedBy_47 ?_
              refine lv_iconst (v := 2) X.hx X.hb dX9_maskedBy_50 (by decide) ?_
              refine lv_iload X.hx X.hb dX9_maskedBy_51 (lv_at hl 4 rfl) ?_
              refine lv_imul X.hx X.hb dX9_maskedBy_53 ?_
              obtain ⟨hi_17, hf⟩ := ck_i hf
              refine r_iald X hP 19 (f := (sT 0)) rfl hi_17 dX9_maskedBy_54 ?_
              obtain ⟨n_18, en_18, hf⟩ := nv_i hf
              refine r_nm en_18 ?_
              refine lv_istore (lv' := [(5, .int n_18), (0, .ref (uE 0)), (1, .ref (uT 0)), (2, .int ((iT 1) / 2)), (3, .int v3_14), (4, .int v4_15)]) X.hx X.hb dX9_maskedBy_55 hl (by decide) rfl (fun ls hl => ?_)
              refine lv_aload_n X.hx X.hb dX9_maskedBy_57 rfl (lv_at hl 2 rfl) ?_
              refine gf_X9_92 X hP 18 rfl (v := .ref (uT 1)) rfl dX9_maskedBy_58 ?_
              refine lv_iconst (v := 2) X.hx X.hb dX9_maskedBy_61 (by decide) ?_
              refine lv_iload X.hx X.hb dX9_maskedBy_62 (lv_at hl 5 rfl) ?_
              refine lv_imul X.hx X.hb dX9_maskedBy_64 ?_
              refine lv_iconst (v := 1) X.hx X.hb dX9_maskedBy_65 (by decide) ?_
              refine lv_iadd X.hx X.hb dX9_maskedBy_66 ?_
              obtain ⟨hi_19, hf⟩ := ck_i hf
              refine r_iald X hP 19 (f := (sT 0)) rfl hi_19 dX9_maskedBy_67 ?_
              obtain ⟨n_20, en_20, hf⟩ := nv_i hf
              refine r_nm en_20 ?_
              refine lv_istore (lv' := [(6, .int n_20), (5, .int n_18), (0, .ref (uE 0)), (1, .ref (uT 0)), (2, .int ((iT 1) / 2)), (3, .int v3_14), (4, .int v4_15)]) X.hx X.hb dX9_maskedBy_68 hl (by decide) rfl (fun ls hl => ?_)
              refine lv_aload_n X.hx X.hb dX9_maskedBy_70 rfl (lv_at hl 2 rfl) ?_
              refine gf_X9_28 X hP 0 rfl (v := .ref (uC 0)) rfl dX9_maskedBy_71 ?_
              refine lv_iload X.hx X.hb dX9_maskedBy_74 (lv_at hl 1 rfl) ?_
              obtain ⟨r_21, hc_22, hf⟩ := bd_i hf
              refine r_bvi (gE G uE (uC 0) (uM 0) iE sE ++ gM G uM (uC 0) iM sM) (gT G uT sT iT jT) (As := [.int n_18]) (rest := []) X sm_X9_95 (c_X1_isPerson l G N uC iC tC sC n_18 hc_22) hP hD hS hA (by simp only [List.append_assoc, List.append_nil, List.nil_append]) (wo := (gE G uE (uC 0) (uM 0) iE sE ++ gM G uM (uC 0) iM sM ++ gC G uC iC tC sC ++ gT G uT sT iT jT)) (by simp only [List.append_assoc, List.append_nil, List.nil_append]) 0 rfl rfl rfl hl.1 (lv_room (Nat.le_of_ble_eq_true rfl)) ⟨Nat.le_of_ble_eq_true rfl, Nat.le_of_ble_eq_true rfl⟩ ⟨Nat.zero_le _, Nat.zero_le _⟩ dX9_maskedBy_76 (fun H locs hP hD hS => ?_)
              refine lv_if_eq (tgt := 88) X.hx X.hb dX9_maskedBy_79 (by decide) (fun hc_23 => ?_) (fun hc_23 => ?_)
              · replace hf := if_t hf hc_23
                refine lv_iconst (v := (-1)) X.hx X.hb dX9_maskedBy_88 (by decide) ?_
                cases hf
                subst hQ
                exact r_iret X hP hD hS dX9_maskedBy_89
              · replace hf := if_f hf hc_23
                refine lv_iload X.hx X.hb dX9_maskedBy_82 (lv_at hl 0 rfl) ?_
                refine lv_iconst (v := 1) X.hx X.hb dX9_maskedBy_84 (by decide) ?_
                refine lv_icmp_le (tgt := 90) X.hx X.hb dX9_maskedBy_85 (by decide) (fun hc_24 => ?_) (fun hc_24 => ?_)
                · replace hf := if_t hf hc_24
                  refine lv_iload_n X.hx X.hb dX9_maskedBy_90 rfl (lv_at hl 5 rfl) ?_
                  refine lv_iload X.hx X.hb dX9_maskedBy_91 (lv_at hl 0 rfl) ?_
                  refine lv_iconst (v := 1) X.hx X.hb dX9_maskedBy_93 (by decide) ?_
                  obtain ⟨K_25, eK_27, hf⟩ := jn_i hf
                  have hj_26 : ∀ (y_28 : Int32) (H : Heap) (locs : List Loc) (ls : Array Slot), K_25 y_28 = some (r, iE') → va_P G.1 vwCl (gE G uE (uC 0) (uM 0) iE sE ++ gM G uM (uC 0) iM sM ++ gC G uC iC tC sC ++ gT G uT sT iT jT) H → va_D A (gE G uE (uC 0) (uM 0) iE sE ++ gM G uM (uC 0) iM sM ++ gC G uC iC tC sC ++ gT G uT sT iT jT) → va_S A s.heap H locs → lv_has ls 7 [(0, .ref (uE 0)), (1, .ref (uT 0)), (2, .int ((iT 1) / 2)), (4, .int v4_15), (5, .int n_18)] → W p l e (RM 4) s m args below meth c H locs 0 0 QQ (F0 m 120 ls [.int y_28, .int v3_14]) := by
                    intro y_28 H locs ls hf hP hD hS hl
                    rw [eK_27] at hf
                    try dsimp only at hf
                    refine lv_iand X.hx X.hb dX9_maskedBy_120 ?_
                    refine lv_istore_n (lv' := [(3, .int (v3_14 &&& y_28)), (0, .ref (uE 0)), (1, .ref (uT 0)), (2, .int ((iT 1) / 2)), (4, .int v4_15), (5, .int n_18)]) X.hx X.hb dX9_maskedBy_121 rfl hl (by decide) rfl (fun ls hl => ?_)
                    refine lv_iload_n X.hx X.hb dX9_maskedBy_122 rfl (lv_at hl 0 rfl) ?_
                    refine lv_iconst (v := 1) X.hx X.hb dX9_maskedBy_123 (by decide) ?_
                    refine lv_iload X.hx X.hb dX9_maskedBy_124 (lv_at hl 5 rfl) ?_
                    refine lv_ishl X.hx X.hb dX9_maskedBy_126 ?_
                    refine lv_iconst (v := (-1)) X.hx X.hb dX9_maskedBy_127 (by decide) ?_
                    refine lv_ixor X.hx X.hb dX9_maskedBy_128 ?_
                    refine lv_iand X.hx X.hb dX9_maskedBy_129 ?_
                    obtain ⟨n_29, en_29, hf⟩ := nv_i hf
                    refine r_nm en_29 ?_
                    refine lv_istore_n (lv' := [(3, .int n_29), (0, .ref (uE 0)), (1, .ref (uT 0)), (2, .int ((iT 1) / 2)), (4, .int v4_15), (5, .int n_18)]) X.hx X.hb dX9_maskedBy_130 rfl hl (by decide) rfl (fun ls hl => ?_)
                    refine lv_iinc (v := (v4_15 + 1)) (lv' := [(4, .int (v4_15 + 1)), (3, .int n_29), (0, .ref (uE 0)), (1, .ref (uT 0)), (2, .int ((iT 1) / 2)), (5, .int n_18)]) X.hx X.hb dX9_maskedBy_131 hl (k := 4) rfl rfl (by decide) rfl (fun ls hl => ?_)
                    refine lv_goto (tgt := 40) X.hx X.hb dX9_maskedBy_134 (by decide) ?_
                    exact ih _ _ _ _ _ hf hP hD hS (lv_sub hl [2, 3, 4, 1, 0] rfl)
                  refine lv_icmp_ne (tgt := 109) X.hx X.hb dX9_maskedBy_94 (by decide) (fun hc_30 => ?_) (fun hc_30 => ?_)
                  · replace hf := if_f hf hc_30
                    refine lv_aload_n X.hx X.hb dX9_maskedBy_109 rfl (lv_at hl 2 rfl) ?_
                    refine gf_X9_32 X hP 0 rfl (v := .ref (uM 0)) rfl dX9_maskedBy_110 ?_
                    refine lv_iload X.hx X.hb dX9_maskedBy_113 (lv_at hl 1 rfl) ?_
                    obtain ⟨r_31, hc_32, hf⟩ := bd_i hf
                    refine r_bvi (gE G uE (uC 0) (uM 0) iE sE) (gT G uT sT iT jT) (As := [.int n_18]) (rest := [.int v3_14]) X sm_X9_69 (c_X4_dealable l G N uM uC iM sM iC tC sC n_18 hc_32) hP hD hS hA (by simp only [List.append_assoc, List.append_nil, List.nil_append]) (wo := (gE G uE (uC 0) (uM 0) iE sE ++ gM G uM (uC 0) iM sM ++ gC G uC iC tC sC ++ gT G uT sT iT jT)) (by simp only [List.append_assoc, List.append_nil, List.nil_append]) 0 rfl rfl rfl hl.1 (lv_room (Nat.le_of_ble_eq_true rfl)) ⟨Nat.le_of_ble_eq_true rfl, Nat.le_of_ble_eq_true rfl⟩ ⟨Nat.zero_le _, Nat.zero_le _⟩ dX9_maskedBy_115 (fun H locs hP hD hS => ?_)
                    refine lv_iconst (v := (-1)) X.hx X.hb dX9_maskedBy_118 (by decide) ?_
                    refine lv_ixor X.hx X.hb dX9_maskedBy_119 ?_
                    exact hj_26 _ _ _ _ hf hP hD hS (lv_sub hl [2, 3, 4, 6, 1] rfl)
                  · replace hf := if_t hf hc_30
                    refine lv_aload_n X.hx X.hb dX9_maskedBy_97 rfl (lv_at hl 2 rfl) ?_
                    refine gf_X9_32 X hP 0 rfl (v := .ref (uM 0)) rfl dX9_maskedBy_98 ?_
                    refine lv_iload X.hx X.hb dX9_maskedBy_101 (lv_at hl 1 rfl) ?_
                    obtain ⟨r_33, hc_34, hf⟩ := bd_i hf
                    refine r_bvi (gE G uE (uC 0) (uM 0) iE sE) (gT G uT sT iT jT) (As := [.int n_18]) (rest := [.int v3_14]) X sm_X9_69 (c_X4_dealable l G N uM uC iM sM iC tC sC n_18 hc_34) hP hD hS hA (by simp only [List.append_assoc, List.append_nil, List.nil_append]) (wo := (gE G uE (uC 0) (uM 0) iE sE ++ gM G uM (uC 0) iM sM ++ gC G uC iC tC sC ++ gT G uT sT iT jT)) (by simp only [List.append_assoc, List.append_nil, List.nil_append]) 0 rfl rfl rfl hl.1 (lv_room (Nat.le_of_ble_eq_true rfl)) ⟨Nat.le_of_ble_eq_true rfl, Nat.le_of_ble_eq_true rfl⟩ ⟨Nat.zero_le _, Nat.zero_le _⟩ dX9_maskedBy_103 (fun H locs hP hD hS => ?_)
                    refine lv_goto (tgt := 120) X.hx X.hb dX9_maskedBy_106 (by decide) ?_
                    exact hj_26 _ _ _ _ hf hP hD hS (lv_sub hl [2, 3, 4, 6, 1] rfl)
                · replace hf := if_f hf hc_24
                  refine lv_iconst (v := (-1)) X.hx X.hb dX9_maskedBy_88 (by decide) ?_
                  cases hf
                  subst hQ
                  exact r_iret X hP hD hS dX9_maskedBy_89
        exact hlo_13 N _ _ _ _ _ hf hP hD hS (lv_sub hl [3, 4, 2, 1, 0] rfl)
      · replace hf := if_f hf hc_3
        refine lv_iconst (v := (-1)) X.hx X.hb dX9_maskedBy_27 (by decide) ?_
        cases hf
        subst hQ
        exact r_iret X hP hD hS dX9_maskedBy_28

def f_X5_signAt (N : Nat) (sP : Nat → Nat → Int32) (iP : Nat → Int32) (p1 : Int32) : Option (Int32) :=
  (if p1 < 0 then some (-1) else (if (iP 1) ≤ p1 then some (-1) else (if (80 : Int32) ≤ p1 then some (-1) else ck p1 80 (some ((sP 0) (ix p1))))))
set_option maxHeartbeats 4000000 in
set_option maxRecDepth 100000 in
theorem c_X5_signAt (l : Launch) (G : GT) (N : Nat) (uP : Nat → Nat) (sP : Nat → Nat → Int32) (iP : Nat → Int32) (p1 : Int32) {r : Int32} (hf : f_X5_signAt N sP iP p1 = some r) : CI l G yX5_signAt cX5_signAt 2 .int 1 [.ref (uP 0), .int p1] (gP G uP sP iP) r (gP G uP sP iP) := by
  refine CI.of (by decide) (Nat.le_of_ble_eq_true rfl) ?_
  intro p e s m args below meth c A X hA hP hD hS ls hl
  have hl : lv_has ls 2 [(0, .ref (uP 0)), (1, .int p1)] := hl
  generalize hQ : MQ below (QI G A r (gP G uP sP iP)) args s 0 0 A = QQ
  unfold f_X5_signAt at hf
  refine lv_iload_n X.hx X.hb dX5_signAt_0 rfl (lv_at hl 1 rfl) ?_
  refine lv_if_lt (tgt := 27) X.hx X.hb dX5_signAt_1 (by decide) (fun hc_1 => ?_) (fun hc_1 => ?_)
  · replace hf := if_t hf hc_1
    refine lv_iconst (v := (-1)) X.hx X.hb dX5_signAt_27 (by decide) ?_
    cases hf
    subst hQ
    exact r_iret X hP hD hS dX5_signAt_28
  · replace hf := if_f hf hc_1
    refine lv_iload_n X.hx X.hb dX5_signAt_4 rfl (lv_at hl 1 rfl) ?_
    refine lv_aload_n X.hx X.hb dX5_signAt_5 rfl (lv_at hl 0 rfl) ?_
    refine gf_X5_15 X hP 0 rfl (v := .int (iP 1)) rfl dX5_signAt_6 ?_
    refine lv_icmp_ge (tgt := 27) X.hx X.hb dX5_signAt_9 (by decide) (fun hc_2 => ?_) (fun hc_2 => ?_)
    · replace hf := if_t hf hc_2
      refine lv_iconst (v := (-1)) X.hx X.hb dX5_signAt_27 (by decide) ?_
      cases hf
      subst hQ
      exact r_iret X hP hD hS dX5_signAt_28
    · replace hf := if_f hf hc_2
      refine lv_iload_n X.hx X.hb dX5_signAt_12 rfl (lv_at hl 1 rfl) ?_
      refine lv_bipush (v := 80) X.hx X.hb dX5_signAt_13 (by decide) ?_
      refine lv_icmp_ge (tgt := 27) X.hx X.hb dX5_signAt_15 (by decide) (fun hc_3 => ?_) (fun hc_3 => ?_)
      · replace hf := if_t hf hc_3
        refine lv_iconst (v := (-1)) X.hx X.hb dX5_signAt_27 (by decide) ?_
        cases hf
        subst hQ
        exact r_iret X hP hD hS dX5_signAt_28
      · replace hf := if_f hf hc_3
        refine lv_aload_n X.hx X.hb dX5_signAt_18 rfl (lv_at hl 0 rfl) ?_
        refine gf_X5_11 X hP 0 rfl (v := .ref (uP 1)) rfl dX5_signAt_19 ?_
        refine lv_iload_n X.hx X.hb dX5_signAt_22 rfl (lv_at hl 1 rfl) ?_
        obtain ⟨hi_4, hf⟩ := ck_i hf
        refine r_iald X hP 1 (f := (sP 0)) rfl hi_4 dX5_signAt_23 ?_
        refine lv_goto (tgt := 28) X.hx X.hb dX5_signAt_24 (by decide) ?_
        cases hf
        subst hQ
        exact r_iret X hP hD hS dX5_signAt_28

def f_X5_add (N : Nat) (sP : Nat → Nat → Int32) (iP : Nat → Int32) (p1 : Int32) : Option ((Nat → Nat → Int32) × (Nat → Int32)) :=
  (if (80 : Int32) ≤ (iP 1) then some (sP, iP) else ck (iP 1) 80 (nv (upd (sP 0) (ix (iP 1)) p1) (fun g_3 => some ((va_up sP 0 g_3), (va_up iP 1 ((iP 1) + 1))))))
set_option maxHeartbeats 4000000 in
set_option maxRecDepth 100000 in
theorem c_X5_add (l : Launch) (G : GT) (N : Nat) (uP : Nat → Nat) (sP : Nat → Nat → Int32) (iP : Nat → Int32) (p1 : Int32) {sP' : Nat → Nat → Int32} {iP' : Nat → Int32} (hf : f_X5_add N sP iP p1 = some (sP', iP')) : CV l G yX5_add cX5_add 2 1 [.ref (uP 0), .int p1] (gP G uP sP iP) (gP G uP sP' iP') := by
  refine CV.of (by decide) (Nat.le_of_ble_eq_true rfl) ?_
  intro p e s m args below meth c A X hA hP hD hS ls hl
  have hl : lv_has ls 2 [(0, .ref (uP 0)), (1, .int p1)] := hl
  generalize hQ : MQ below (QV G A (gP G uP sP' iP')) args s 0 0 A = QQ
  unfold f_X5_add at hf
  refine lv_aload_n X.hx X.hb dX5_add_0 rfl (lv_at hl 0 rfl) ?_
  refine gf_X5_15 X hP 0 rfl (v := .int (iP 1)) rfl dX5_add_1 ?_
  refine lv_bipush (v := 80) X.hx X.hb dX5_add_4 (by decide) ?_
  refine lv_icmp_ge (tgt := 29) X.hx X.hb dX5_add_6 (by decide) (fun hc_1 => ?_) (fun hc_1 => ?_)
  · replace hf := if_t hf hc_1
    cases hf
    subst hQ
    exact r_vret X hP hD hS dX5_add_29
  · replace hf := if_f hf hc_1
    refine lv_aload_n X.hx X.hb dX5_add_9 rfl (lv_at hl 0 rfl) ?_
    refine gf_X5_11 X hP 0 rfl (v := .ref (uP 1)) rfl dX5_add_10 ?_
    refine lv_aload_n X.hx X.hb dX5_add_13 rfl (lv_at hl 0 rfl) ?_
    refine gf_X5_15 X hP 0 rfl (v := .int (iP 1)) rfl dX5_add_14 ?_
    refine lv_iload_n X.hx X.hb dX5_add_17 rfl (lv_at hl 1 rfl) ?_
    obtain ⟨hi_2, hf⟩ := ck_i hf
    obtain ⟨g_3, eg_3, hf⟩ := nv_i hf
    refine r_iast X hP hD hS 1 (f := (sP 0)) rfl hi_2 (wo := (gP G uP (va_up sP 0 g_3) iP)) (by subst eg_3; rfl) dX5_add_18 (fun H locs hP hD hS => ?_)
    refine lv_aload_n X.hx X.hb dX5_add_19 rfl (lv_at hl 0 rfl) ?_
    refine lv_dup X.hx X.hb dX5_add_20 rfl ?_
    refine gf_X5_15 X hP 0 rfl (v := .int (iP 1)) rfl dX5_add_21 ?_
    refine lv_iconst (v := 1) X.hx X.hb dX5_add_24 (by decide) ?_
    refine lv_iadd X.hx X.hb dX5_add_25 ?_
    refine pf_X5_15 X hP hD hS 0 rfl rfl rfl (Nat.le_of_ble_eq_true rfl) (wo := (gP G uP (va_up sP 0 g_3) (va_up iP 1 ((iP 1) + 1)))) rfl dX5_add_26 (fun H locs hP hD hS => ?_)
    cases hf
    subst hQ
    exact r_vret X hP hD hS dX5_add_29

def f_X5_addText_2 (N : Nat) (p1 : Nat) : Nat → (Nat → Nat → Int32) → (Nat → Int32) → (Int32) → Option ((Nat → Nat → Int32) × (Nat → Int32))
  | 0, _, _, _ => none
  | k + 1, sP, iP, v2 => (if (nI (lenS.getD p1 0)) ≤ v2 then some (sP, iP) else ck v2 (lenS.getD p1 0) (bd (f_X5_add N sP iP (chS p1 (ix v2))) (fun (sP_12, iP_13) => f_X5_addText_2 N p1 k sP_12 iP_13 (v2 + 1))))
def f_X5_addText (N : Nat) (sP : Nat → Nat → Int32) (iP : Nat → Int32) (p1 : Nat) : Option ((Nat → Nat → Int32) × (Nat → Int32)) :=
  f_X5_addText_2 N p1 N sP iP 0
set_option maxHeartbeats 4000000 in
set_option maxRecDepth 100000 in
theorem c_X5_addText (l : Launch) (G : GT) (N : Nat) (uP : Nat → Nat) (sP : Nat → Nat → Int32) (iP : Nat → Int32) (p1 : Nat) (hp1 : p1 < 5) {sP' : Nat → Nat → Int32} {iP' : Nat → Int32} (hf : f_X5_addText N sP iP p1 = some (sP', iP')) : CV l G yX5_addText cX5_addText 3 5 [.ref (uP 0), .ref (G.2.2.1 p1)] (gP G uP sP iP) (gP G uP sP' iP') := by
  refine CV.of (by decide) (Nat.le_of_ble_eq_true rfl) ?_
  intro p e s m args below meth c A X hA hP hD hS ls hl
  have hl : lv_has ls 3 [(0, .ref (uP 0)), (1, .ref (G.2.2.1 p1))] := hl
  generalize hQ : MQ below (QV G A (gP G uP sP' iP')) args s 0 0 A = QQ
  unfold f_X5_addText at hf
  refine lv_iconst (v := 0) X.hx X.hb dX5_addText_0 (by decide) ?_
  refine lv_istore_n (lv' := [(2, .int 0), (0, .ref (uP 0)), (1, .ref (G.2.2.1 p1))]) X.hx X.hb dX5_addText_1 rfl hl (by decide) rfl (fun ls hl => ?_)
  have hlo_1 : ∀ (k : Nat) (sP_2 : Nat → Nat → Int32) (iP_3 : Nat → Int32) (v2_4 : Int32) (H : Heap) (locs : List Loc) (ls : Array Slot), f_X5_addText_2 N p1 k sP_2 iP_3 v2_4 = some (sP', iP') → va_P G.1 vwCl (gP G uP sP_2 iP_3) H → va_D A (gP G uP sP_2 iP_3) → va_S A s.heap H locs → lv_has ls 3 [(0, .ref (uP 0)), (1, .ref (G.2.2.1 p1)), (2, .int v2_4)] → W p l e (RM 5) s m args below meth c H locs 0 0 QQ (F0 m 2 ls []) := by
    intro k
    induction k with
    | zero => intro sP_2 iP_3 v2_4 H locs ls hf; exact absurd hf (by intro q; cases q)
    | succ k ih =>
      intro sP_2 iP_3 v2_4 H locs ls hf hP hD hS hl
      unfold f_X5_addText_2 at hf
      refine lv_iload_n X.hx X.hb dX5_addText_2 rfl (lv_at hl 2 rfl) ?_
      refine lv_aload_n X.hx X.hb dX5_addText_3 rfl (lv_at hl 1 rfl) ?_
      refine r_cvS (As := []) (rest := [.int v2_4]) X sm_X5_64 rfl hp1 (c_J0_length_8abf5 l G p1 hp1) hP hD hS hA rfl hl.1 (lv_room (Nat.le_of_ble_eq_true rfl)) ⟨Nat.le_of_ble_eq_true rfl, Nat.le_of_ble_eq_true rfl⟩ ⟨Nat.zero_le _, Nat.zero_le _⟩ dX5_addText_4 (fun H locs hP hD hS => ?_)
      refine lv_icmp_ge (tgt := 25) X.hx X.hb dX5_addText_7 (by decide) (fun hc_5 => ?_) (fun hc_5 => ?_)
      · replace hf := if_t hf hc_5
        cases hf
        subst hQ
        exact r_vret X hP hD hS dX5_addText_25
      · replace hf := if_f hf hc_5
        refine lv_aload_n X.hx X.hb dX5_addText_10 rfl (lv_at hl 0 rfl) ?_
        refine lv_aload_n X.hx X.hb dX5_addText_11 rfl (lv_at hl 1 rfl) ?_
        refine lv_iload_n X.hx X.hb dX5_addText_12 rfl (lv_at hl 2 rfl) ?_
        obtain ⟨hk_6, hf⟩ := ck_i hf
        refine r_sch (rest := [.ref (uP 0)]) X sm_X5_69 hp1 hk_6 hP hD hS hA hl.1 (lv_room (Nat.le_of_ble_eq_true rfl)) ⟨Nat.le_of_ble_eq_true rfl, Nat.le_of_ble_eq_true rfl⟩ ⟨Nat.zero_le _, Nat.zero_le _⟩ dX5_addText_13 (fun H locs hP hD hS => ?_)
        obtain ⟨⟨sP_7, iP_8⟩, hc_9, hf⟩ := bd_i hf
        refine r_wvv (As := [.int (chS p1 (ix v2_4))]) (rest := []) X sm_X5_48 (c_X5_add l G N uP sP_2 iP_3 (chS p1 (ix v2_4)) hc_9) hP hD hS hA 0 rfl rfl rfl hl.1 (lv_room (Nat.le_of_ble_eq_true rfl)) ⟨Nat.le_of_ble_eq_true rfl, Nat.le_of_ble_eq_true rfl⟩ ⟨Nat.zero_le _, Nat.zero_le _⟩ dX5_addText_16 (fun H locs hP hD hS => ?_)
        refine lv_iinc (v := (v2_4 + 1)) (lv' := [(2, .int (v2_4 + 1)), (0, .ref (uP 0)), (1, .ref (G.2.2.1 p1))]) X.hx X.hb dX5_addText_19 hl (k := 2) rfl rfl (by decide) rfl (fun ls hl => ?_)
        refine lv_goto (tgt := 2) X.hx X.hb dX5_addText_22 (by decide) ?_
        exact ih _ _ _ _ _ _ hf hP hD hS (lv_sub hl [1, 2, 0] rfl)
  exact hlo_1 N _ _ _ _ _ _ hf hP hD hS (lv_sub hl [1, 2, 0] rfl)

def f_X5_addName_3 (N : Nat) (v1 : Int64) : Nat → (Nat → Nat → Int32) → (Nat → Int32) → (Int32) → Option ((Nat → Nat → Int32) × (Nat → Int32))
  | 0, _, _, _ => none
  | k + 1, sP, iP, v3 => (if v3 < 0 then some (sP, iP) else nv (((usl v1 v3).toInt32) &&& 31) (fun n_17 => jn (fun (z : (Nat → Nat → Int32) × (Nat → Int32)) => match z with | (sP_21, iP_22) => f_X5_addName_3 N v1 k sP_21 iP_22 (v3 + (-5))) (fun K_18 => (if n_17 ≤ 0 then K_18 (sP, iP) else bd (f_X5_add N sP iP (n_17 + 96)) (fun (sP_24, iP_25) => K_18 (sP_24, iP_25))))))
def f_X5_addName (N : Nat) (sP : Nat → Nat → Int32) (iP : Nat → Int32) (p1 : Int64) : Option ((Nat → Nat → Int32) × (Nat → Int32)) :=
  f_X5_addName_3 N p1 N sP iP 30
set_option maxHeartbeats 4000000 in
set_option maxRecDepth 100000 in
theorem c_X5_addName (l : Launch) (G : GT) (N : Nat) (uP : Nat → Nat) (sP : Nat → Nat → Int32) (iP : Nat → Int32) (p1 : Int64) {sP' : Nat → Nat → Int32} {iP' : Nat → Int32} (hf : f_X5_addName N sP iP p1 = some (sP', iP')) : CV l G yX5_addName cX5_addName 5 2 [.ref (uP 0), .long p1] (gP G uP sP iP) (gP G uP sP' iP') := by
  refine CV.of (by decide) (Nat.le_of_ble_eq_true rfl) ?_
  intro p e s m args below meth c A X hA hP hD hS ls hl
  have hl : lv_has ls 5 [(0, .ref (uP 0)), (1, .long p1)] := hl
  generalize hQ : MQ below (QV G A (gP G uP sP' iP')) args s 0 0 A = QQ
  unfold f_X5_addName at hf
  refine lv_bipush (v := 30) X.hx X.hb dX5_addName_0 (by decide) ?_
  refine lv_istore_n (lv' := [(3, .int 30), (0, .ref (uP 0)), (1, .long p1)]) X.hx X.hb dX5_addName_2 rfl hl (by decide) rfl (fun ls hl => ?_)
  have hlo_1 : ∀ (k : Nat) (sP_2 : Nat → Nat → Int32) (iP_3 : Nat → Int32) (v3_4 : Int32) (H : Heap) (locs : List Loc) (ls : Array Slot), f_X5_addName_3 N p1 k sP_2 iP_3 v3_4 = some (sP', iP') → va_P G.1 vwCl (gP G uP sP_2 iP_3) H → va_D A (gP G uP sP_2 iP_3) → va_S A s.heap H locs → lv_has ls 5 [(0, .ref (uP 0)), (1, .long p1), (3, .int v3_4)] → W p l e (RM 2) s m args below meth c H locs 0 0 QQ (F0 m 3 ls []) := by
    intro k
    induction k with
    | zero => intro sP_2 iP_3 v3_4 H locs ls hf; exact absurd hf (by intro q; cases q)
    | succ k ih =>
      intro sP_2 iP_3 v3_4 H locs ls hf hP hD hS hl
      unfold f_X5_addName_3 at hf
      refine lv_iload_n X.hx X.hb dX5_addName_3 rfl (lv_at hl 2 rfl) ?_
      refine lv_if_lt (tgt := 36) X.hx X.hb dX5_addName_4 (by decide) (fun hc_5 => ?_) (fun hc_5 => ?_)
      · replace hf := if_t hf hc_5
        cases hf
        subst hQ
        exact r_vret X hP hD hS dX5_addName_36
      · replace hf := if_f hf hc_5
        refine lv_lload_n X.hx X.hb dX5_addName_7 rfl (lv_at hl 1 rfl) ?_
        refine lv_iload_n X.hx X.hb dX5_addName_8 rfl (lv_at hl 2 rfl) ?_
        refine lv_lushr (v := (usl p1 v3_4)) X.hx X.hb dX5_addName_9 rfl ?_
        refine lv_l2i (v := ((usl p1 v3_4).toInt32)) X.hx X.hb dX5_addName_10 rfl ?_
        refine lv_bipush (v := 31) X.hx X.hb dX5_addName_11 (by decide) ?_
        refine lv_iand X.hx X.hb dX5_addName_13 ?_
        obtain ⟨n_6, en_6, hf⟩ := nv_i hf
        refine r_nm en_6 ?_
        refine lv_istore (lv' := [(4, .int n_6), (0, .ref (uP 0)), (1, .long p1), (3, .int v3_4)]) X.hx X.hb dX5_addName_14 hl (by decide) rfl (fun ls hl => ?_)
        refine lv_iload X.hx X.hb dX5_addName_16 (lv_at hl 0 rfl) ?_
        obtain ⟨K_7, eK_9, hf⟩ := jn_i hf
        have hj_8 : ∀ (sP_10 : Nat → Nat → Int32) (iP_11 : Nat → Int32) (H : Heap) (locs : List Loc) (ls : Array Slot), K_7 (sP_10, iP_11) = some (sP', iP') → va_P G.1 vwCl (gP G uP sP_10 iP_11) H → va_D A (gP G uP sP_10 iP_11) → va_S A s.heap H locs → lv_has ls 5 [(0, .ref (uP 0)), (1, .long p1), (3, .int v3_4)] → W p l e (RM 2) s m args below meth c H locs 0 0 QQ (F0 m 30 ls []) := by
          intro sP_10 iP_11 H locs ls hf hP hD hS hl
          rw [eK_9] at hf
          try dsimp only at hf
          refine lv_iinc (v := (v3_4 + (-5))) (lv' := [(3, .int (v3_4 + (-5))), (0, .ref (uP 0)), (1, .long p1)]) X.hx X.hb dX5_addName_30 hl (k := 2) rfl rfl (by decide) rfl (fun ls hl => ?_)
          refine lv_goto (tgt := 3) X.hx X.hb dX5_addName_33 (by decide) ?_
          exact ih _ _ _ _ _ _ hf hP hD hS (lv_sub hl [1, 2, 0] rfl)
        refine lv_if_le (tgt := 30) X.hx X.hb dX5_addName_18 (by decide) (fun hc_12 => ?_) (fun hc_12 => ?_)
        · replace hf := if_t hf hc_12
          exact hj_8 _ _ _ _ _ hf hP hD hS (lv_sub hl [1, 2, 3] rfl)
        · replace hf := if_f hf hc_12
          refine lv_aload_n X.hx X.hb dX5_addName_21 rfl (lv_at hl 1 rfl) ?_
          refine lv_iload X.hx X.hb dX5_addName_22 (lv_at hl 0 rfl) ?_
          refine lv_bipush (v := 96) X.hx X.hb dX5_addName_24 (by decide) ?_
          refine lv_iadd X.hx X.hb dX5_addName_26 ?_
          obtain ⟨⟨sP_13, iP_14⟩, hc_15, hf⟩ := bd_i hf
          refine r_wvv (As := [.int (n_6 + 96)]) (rest := []) X sm_X5_48 (c_X5_add l G N uP sP_2 iP_3 (n_6 + 96) hc_15) hP hD hS hA 0 rfl rfl rfl hl.1 (lv_room (Nat.le_of_ble_eq_true rfl)) ⟨Nat.le_of_ble_eq_true rfl, Nat.le_of_ble_eq_true rfl⟩ ⟨Nat.zero_le _, Nat.zero_le _⟩ dX5_addName_27 (fun H locs hP hD hS => ?_)
          exact hj_8 _ _ _ _ _ hf hP hD hS (lv_sub hl [1, 2, 3] rfl)
  exact hlo_1 N _ _ _ _ _ _ hf hP hD hS (lv_sub hl [1, 2, 0] rfl)

