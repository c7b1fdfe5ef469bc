def f_J6_bitCount_0f7a4 (N : Nat) (p1 : Int32) : Option (Int32) :=
  nv (p1 - ((us p1 1) &&& 1431655765)) (fun n_1 => nv ((n_1 &&& 858993459) + ((us n_1 2) &&& 858993459)) (fun n_2 => nv ((n_2 + (us n_2 4)) &&& 252645135) (fun n_3 => nv ((n_3 + (us n_3 8)) + (us (n_3 + (us n_3 8)) 16)) (fun n_4 => some (n_4 &&& 63)))))
set_option maxHeartbeats 4000000 in
set_option maxRecDepth 100000 in
theorem c_J6_bitCount_0f7a4 (l : Launch) (G : GT) (N : Nat) (p1 : Int32) {r : Int32} (hf : f_J6_bitCount_0f7a4 N p1 = some r) : CI l G yJ6_bitCount_0f7a4 cJ6_bitCount_0f7a4 1 .int 1 [.int p1] ([] : va_W) r ([] : va_W) := by
  refine CI.of (by decide) (Nat.le_of_ble_eq_true rfl) ?_
  intro p e s m args below meth c A X hA hP hD hS ls hl
  have hl : lv_has ls 1 [(0, .int p1)] := hl
  generalize hQ : MQ below (QI G A r ([] : va_W)) args s 0 0 A = QQ
  unfold f_J6_bitCount_0f7a4 at hf
  refine lv_iload_n X.hx X.hb dJ6_bitCount_0f7a4_0 rfl (lv_at hl 0 rfl) ?_
  refine lv_iload_n X.hx X.hb dJ6_bitCount_0f7a4_1 rfl (lv_at hl 0 rfl) ?_
  refine lv_iconst (v := 1) X.hx X.hb dJ6_bitCount_0f7a4_2 (by decide) ?_
  refine lv_iushr (v := (us p1 1)) X.hx X.hb dJ6_bitCount_0f7a4_3 rfl ?_
  refine lv_ldcw (v := 1431655765) X.hx X.hb X.hown (X.hts _ tw_766) dJ6_bitCount_0f7a4_4 ?_
  refine lv_iand X.hx X.hb dJ6_bitCount_0f7a4_7 ?_
  refine lv_isub X.hx X.hb dJ6_bitCount_0f7a4_8 ?_
  obtain ⟨n_1, en_1, hf⟩ := nv_i hf
  refine r_nm en_1 ?_
  refine lv_istore_n (lv' := [(0, .int n_1)]) X.hx X.hb dJ6_bitCount_0f7a4_9 rfl hl (by decide) rfl (fun ls hl => ?_)
  refine lv_iload_n X.hx X.hb dJ6_bitCount_0f7a4_10 rfl (lv_at hl 0 rfl) ?_
  refine lv_ldcw (v := 858993459) X.hx X.hb X.hown (X.hts _ tw_767) dJ6_bitCount_0f7a4_11 ?_
  refine lv_iand X.hx X.hb dJ6_bitCount_0f7a4_14 ?_
  refine lv_iload_n X.hx X.hb dJ6_bitCount_0f7a4_15 rfl (lv_at hl 0 rfl) ?_
  refine lv_iconst (v := 2) X.hx X.hb dJ6_bitCount_0f7a4_16 (by decide) ?_
  refine lv_iushr (v := (us n_1 2)) X.hx X.hb dJ6_bitCount_0f7a4_17 rfl ?_
  refine lv_ldcw (v := 858993459) X.hx X.hb X.hown (X.hts _ tw_767) dJ6_bitCount_0f7a4_18 ?_
  refine lv_iand X.hx X.hb dJ6_bitCount_0f7a4_21 ?_
  refine lv_iadd X.hx X.hb dJ6_bitCount_0f7a4_22 ?_
  obtain ⟨n_2, en_2, hf⟩ := nv_i hf
  refine r_nm en_2 ?_
  refine lv_istore_n (lv' := [(0, .int n_2)]) X.hx X.hb dJ6_bitCount_0f7a4_23 rfl hl (by decide) rfl (fun ls hl => ?_)
  refine lv_iload_n X.hx X.hb dJ6_bitCount_0f7a4_24 rfl (lv_at hl 0 rfl) ?_
  refine lv_iload_n X.hx X.hb dJ6_bitCount_0f7a4_25 rfl (lv_at hl 0 rfl) ?_
  refine lv_iconst (v := 4) X.hx X.hb dJ6_bitCount_0f7a4_26 (by decide) ?_
  refine lv_iushr (v := (us n_2 4)) X.hx X.hb dJ6_bitCount_0f7a4_27 rfl ?_
  refine lv_iadd X.hx X.hb dJ6_bitCount_0f7a4_28 ?_
  refine lv_ldcw (v := 252645135) X.hx X.hb X.hown (X.hts _ tw_768) dJ6_bitCount_0f7a4_29 ?_
  refine lv_iand X.hx X.hb dJ6_bitCount_0f7a4_32 ?_
  obtain ⟨n_3, en_3, hf⟩ := nv_i hf
  refine r_nm en_3 ?_
  refine lv_istore_n (lv' := [(0, .int n_3)]) X.hx X.hb dJ6_bitCount_0f7a4_33 rfl hl (by decide) rfl (fun ls hl => ?_)
  refine lv_iload_n X.hx X.hb dJ6_bitCount_0f7a4_34 rfl (lv_at hl 0 rfl) ?_
  refine lv_iload_n X.hx X.hb dJ6_bitCount_0f7a4_35 rfl (lv_at hl 0 rfl) ?_
  refine lv_bipush (v := 8) X.hx X.hb dJ6_bitCount_0f7a4_36 (by decide) ?_
  refine lv_iushr (v := (us n_3 8)) X.hx X.hb dJ6_bitCount_0f7a4_38 rfl ?_
  refine lv_iadd X.hx X.hb dJ6_bitCount_0f7a4_39 ?_
  refine lv_istore_n (lv' := [(0, .int (n_3 + (us n_3 8)))]) X.hx X.hb dJ6_bitCount_0f7a4_40 rfl hl (by decide) rfl (fun ls hl => ?_)
  refine lv_iload_n X.hx X.hb dJ6_bitCount_0f7a4_41 rfl (lv_at hl 0 rfl) ?_
  refine lv_iload_n X.hx X.hb dJ6_bitCount_0f7a4_42 rfl (lv_at hl 0 rfl) ?_
  refine lv_bipush (v := 16) X.hx X.hb dJ6_bitCount_0f7a4_43 (by decide) ?_
  refine lv_iushr (v := (us (n_3 + (us n_3 8)) 16)) X.hx X.hb dJ6_bitCount_0f7a4_45 rfl ?_
  refine lv_iadd X.hx X.hb dJ6_bitCount_0f7a4_46 ?_
  obtain ⟨n_4, en_4, hf⟩ := nv_i hf
  refine r_nm en_4 ?_
  refine lv_istore_n (lv' := [(0, .int n_4)]) X.hx X.hb dJ6_bitCount_0f7a4_47 rfl hl (by decide) rfl (fun ls hl => ?_)
  refine lv_iload_n X.hx X.hb dJ6_bitCount_0f7a4_48 rfl (lv_at hl 0 rfl) ?_
  refine lv_bipush (v := 63) X.hx X.hb dJ6_bitCount_0f7a4_49 (by decide) ?_
  refine lv_iand X.hx X.hb dJ6_bitCount_0f7a4_51 ?_
  cases hf
  subst hQ
  exact r_iret X hP hD hS dJ6_bitCount_0f7a4_52

def f_X4_pairsMet_4 (N : Nat) (iM : Nat → Int32) (sM : Nat → Nat → Int32) (iC : Nat → Int32) (tC : Nat → Nat → Int64) (sC : Nat → Nat → Int32) (K_1 : ((Int32)) → Option (Int32)) : Nat → (Int32) → (Int32) → Option (Int32)
  | 0, _, _ => none
  | k + 1, v1, v2 => (if (7 : Int32) ≤ v2 then K_1 v1 else ck v2 7 (bd (f_J6_bitCount_0f7a4 N ((sM 8) (ix v2))) (fun r_14 => f_X4_pairsMet_4 N iM sM iC tC sC K_1 k (v1 + r_14) (v2 + 1))))
def f_X4_pairsMet (N : Nat) (iM : Nat → Int32) (sM : Nat → Nat → Int32) (iC : Nat → Int32) (tC : Nat → Nat → Int64) (sC : Nat → Nat → Int32) : Option (Int32) :=
  jn (fun (z : (Int32)) => match z with | x1_4 => some (x1_4 / 2)) (fun K_1 => f_X4_pairsMet_4 N iM sM iC tC sC K_1 N 0 0)
set_option maxHeartbeats 4000000 in
set_option maxRecDepth 100000 in
theorem c_X4_pairsMet (l : Launch) (G : GT) (N : Nat) (uM uC : Nat → Nat) (iM : Nat → Int32) (sM : Nat → Nat → Int32) (iC : Nat → Int32) (tC : Nat → Nat → Int64) (sC : Nat → Nat → Int32) {r : Int32} (hf : f_X4_pairsMet N iM sM iC tC sC = some r) : CI l G yX4_pairsMet cX4_pairsMet 3 .int 2 [.ref (uM 0)] (gM G uM (uC 0) iM sM ++ gC G uC iC tC sC) r (gM G uM (uC 0) iM sM ++ gC G uC iC tC sC) := by
  refine CI.of (by decide) (Nat.le_of_ble_eq_true rfl) ?_
  intro p e s m args below meth c A X hA hP hD hS ls hl
  have hl : lv_has ls 3 [(0, .ref (uM 0))] := hl
  generalize hQ : MQ below (QI G A r (gM G uM (uC 0) iM sM ++ gC G uC iC tC sC)) args s 0 0 A = QQ
  unfold f_X4_pairsMet at hf
  refine lv_iconst (v := 0) X.hx X.hb dX4_pairsMet_0 (by decide) ?_
  refine lv_istore_n (lv' := [(1, .int 0), (0, .ref (uM 0))]) X.hx X.hb dX4_pairsMet_1 rfl hl (by decide) rfl (fun ls hl => ?_)
  refine lv_iconst (v := 0) X.hx X.hb dX4_pairsMet_2 (by decide) ?_
  refine lv_istore_n (lv' := [(2, .int 0), (1, .int 0), (0, .ref (uM 0))]) X.hx X.hb dX4_pairsMet_3 rfl hl (by decide) rfl (fun ls hl => ?_)
  obtain ⟨K_1, eK_3, hf⟩ := jn_i hf
  have hj_2 : ∀ (x1_4 : Int32) (H : Heap) (locs : List Loc) (ls : Array Slot), K_1 x1_4 = some r → va_P G.1 vwCl (gM G uM (uC 0) iM sM ++ gC G uC iC tC sC) H → va_D A (gM G uM (uC 0) iM sM ++ gC G uC iC tC sC) → va_S A s.heap H locs → lv_has ls 3 [(1, .int x1_4)] → W p l e (RM 2) s m args below meth c H locs 0 0 QQ (F0 m 28 ls []) := by
    intro x1_4 H locs ls hf hP hD hS hl
    rw [eK_3] at hf
    try dsimp only at hf
    refine lv_iload_n X.hx X.hb dX4_pairsMet_28 rfl (lv_at hl 0 rfl) ?_
    refine lv_iconst (v := 2) X.hx X.hb dX4_pairsMet_29 (by decide) ?_
    refine lv_idiv X.hx X.hb dX4_pairsMet_30 (by decide) ?_
    cases hf
    subst hQ
    exact r_iret X hP hD hS dX4_pairsMet_31
  have hlo_5 : ∀ (k : Nat) (v1_6 : Int32) (v2_7 : Int32) (H : Heap) (locs : List Loc) (ls : Array Slot), f_X4_pairsMet_4 N iM sM iC tC sC K_1 k v1_6 v2_7 = some r → va_P G.1 vwCl (gM G uM (uC 0) iM sM ++ gC G uC iC tC sC) H → va_D A (gM G uM (uC 0) iM sM ++ gC G uC iC tC sC) → va_S A s.heap H locs → lv_has ls 3 [(0, .ref (uM 0)), (1, .int v1_6), (2, .int v2_7)] → W p l e (RM 2) s m args below meth c H locs 0 0 QQ (F0 m 4 ls []) := by
    intro k
    induction k with
    | zero => intro v1_6 v2_7 H locs ls hf; exact absurd hf (by intro q; cases q)
    | succ k ih =>
      intro v1_6 v2_7 H locs ls hf hP hD hS hl
      unfold f_X4_pairsMet_4 at hf
      refine lv_iload_n X.hx X.hb dX4_pairsMet_4 rfl (lv_at hl 2 rfl) ?_
      refine lv_bipush (v := 7) X.hx X.hb dX4_pairsMet_5 (by decide) ?_
      refine lv_icmp_ge (tgt := 28) X.hx X.hb dX4_pairsMet_7 (by decide) (fun hc_8 => ?_) (fun hc_8 => ?_)
      · replace hf := if_t hf hc_8
        exact hj_2 _ _ _ _ hf hP hD hS (lv_sub hl [1] rfl)
      · replace hf := if_f hf hc_8
        refine lv_iload_n X.hx X.hb dX4_pairsMet_10 rfl (lv_at hl 1 rfl) ?_
        refine lv_aload_n X.hx X.hb dX4_pairsMet_11 rfl (lv_at hl 0 rfl) ?_
        refine gf_X4_18 X hP 0 rfl (v := .ref (uM 9)) rfl dX4_pairsMet_12 ?_
        refine lv_iload_n X.hx X.hb dX4_pairsMet_15 rfl (lv_at hl 2 rfl) ?_
        obtain ⟨hi_9, hf⟩ := ck_i hf
        refine r_iald X hP 3 (f := (sM 8)) rfl hi_9 dX4_pairsMet_16 ?_
        obtain ⟨r_10, hc_11, hf⟩ := bd_i hf
        refine r_cs0 (As := [.int ((sM 8) (ix v2_7))]) (rest := [.int v1_6]) X sm_X4_103 (c_J6_bitCount_0f7a4 l G N ((sM 8) (ix v2_7)) hc_11) hP hD hS hA rfl hl.1 (lv_room (Nat.le_of_ble_eq_true rfl)) ⟨Nat.le_of_ble_eq_true rfl, Nat.le_of_ble_eq_true rfl⟩ ⟨Nat.zero_le _, Nat.zero_le _⟩ dX4_pairsMet_17 (fun H locs hP hD hS => ?_)
        refine lv_iadd X.hx X.hb dX4_pairsMet_20 ?_
        refine lv_istore_n (lv' := [(1, .int (v1_6 + r_10)), (0, .ref (uM 0)), (2, .int v2_7)]) X.hx X.hb dX4_pairsMet_21 rfl hl (by decide) rfl (fun ls hl => ?_)
        refine lv_iinc (v := (v2_7 + 1)) (lv' := [(2, .int (v2_7 + 1)), (1, .int (v1_6 + r_10)), (0, .ref (uM 0))]) X.hx X.hb dX4_pairsMet_22 hl (k := 2) rfl rfl (by decide) rfl (fun ls hl => ?_)
        refine lv_goto (tgt := 4) X.hx X.hb dX4_pairsMet_25 (by decide) ?_
        exact ih _ _ _ _ _ hf hP hD hS (lv_sub hl [2, 1, 0] rfl)
  exact hlo_5 N _ _ _ _ _ hf hP hD hS (lv_sub hl [2, 1, 0] rfl)

def f_X4_allHunger_4 (N : Nat) (iM : Nat → Int32) (sM : Nat → Nat → Int32) (iC : Nat → Int32) (tC : Nat → Nat → Int64) (sC : Nat → Nat → Int32) : Nat → (Int32) → (Int32) → Option (Int32)
  | 0, _, _ => none
  | k + 1, v1, v2 => (if (7 : Int32) ≤ v2 then some v1 else ck v2 7 (nv (v1 + ((sM 7) (ix v2))) (fun n_9 => f_X4_allHunger_4 N iM sM iC tC sC k n_9 (v2 + 1))))
def f_X4_allHunger (N : Nat) (iM : Nat → Int32) (sM : Nat → Nat → Int32) (iC : Nat → Int32) (tC : Nat → Nat → Int64) (sC : Nat → Nat → Int32) : Option (Int32) :=
  f_X4_allHunger_4 N iM sM iC tC sC N 0 0
set_option maxHeartbeats 4000000 in
set_option maxRecDepth 100000 in
theorem c_X4_allHunger (l : Launch) (G : GT) (N : Nat) (uM uC : Nat → Nat) (iM : Nat → Int32) (sM : Nat → Nat → Int32) (iC : Nat → Int32) (tC : Nat → Nat → Int64) (sC : Nat → Nat → Int32) {r : Int32} (hf : f_X4_allHunger N iM sM iC tC sC = some r) : CI l G yX4_allHunger cX4_allHunger 3 .int 1 [.ref (uM 0)] (gM G uM (uC 0) iM sM ++ gC G uC iC tC sC) r (gM G uM (uC 0) iM sM ++ gC G uC iC tC sC) := by
  refine CI.of (by decide) (Nat.le_of_ble_eq_true rfl) ?_
  intro p e s m args below meth c A X hA hP hD hS ls hl
  have hl : lv_has ls 3 [(0, .ref (uM 0))] := hl
  generalize hQ : MQ below (QI G A r (gM G uM (uC 0) iM sM ++ gC G uC iC tC sC)) args s 0 0 A = QQ
  unfold f_X4_allHunger at hf
  refine lv_iconst (v := 0) X.hx X.hb dX4_allHunger_0 (by decide) ?_
  refine lv_istore_n (lv' := [(1, .int 0), (0, .ref (uM 0))]) X.hx X.hb dX4_allHunger_1 rfl hl (by decide) rfl (fun ls hl => ?_)
  refine lv_iconst (v := 0) X.hx X.hb dX4_allHunger_2 (by decide) ?_
  refine lv_istore_n (lv' := [(2, .int 0), (1, .int 0), (0, .ref (uM 0))]) X.hx X.hb dX4_allHunger_3 rfl hl (by decide) rfl (fun ls hl => ?_)
  have hlo_1 : ∀ (k : Nat) (v1_2 : Int32) (v2_3 : Int32) (H : Heap) (locs : List Loc) (ls : Array Slot), f_X4_allHunger_4 N iM sM iC tC sC k v1_2 v2_3 = some r → va_P G.1 vwCl (gM G uM (uC 0) iM sM ++ gC G uC iC tC sC) H → va_D A (gM G uM (uC 0) iM sM ++ gC G uC iC tC sC) → va_S A s.heap H locs → lv_has ls 3 [(0, .ref (uM 0)), (1, .int v1_2), (2, .int v2_3)] → W p l e (RM 1) s m args below meth c H locs 0 0 QQ (F0 m 4 ls []) := by
    intro k
    induction k with
    | zero => intro v1_2 v2_3 H locs ls hf; exact absurd hf (by intro q; cases q)
    | succ k ih =>
      intro v1_2 v2_3 H locs ls hf hP hD hS hl
      unfold f_X4_allHunger_4 at hf
      refine lv_iload_n X.hx X.hb dX4_allHunger_4 rfl (lv_at hl 2 rfl) ?_
      refine lv_bipush (v := 7) X.hx X.hb dX4_allHunger_5 (by decide) ?_
      refine lv_icmp_ge (tgt := 25) X.hx X.hb dX4_allHunger_7 (by decide) (fun hc_4 => ?_) (fun hc_4 => ?_)
      · replace hf := if_t hf hc_4
        refine lv_iload_n X.hx X.hb dX4_allHunger_25 rfl (lv_at hl 1 rfl) ?_
        cases hf
        subst hQ
        exact r_iret X hP hD hS dX4_allHunger_26
      · replace hf := if_f hf hc_4
        refine lv_iload_n X.hx X.hb dX4_allHunger_10 rfl (lv_at hl 1 rfl) ?_
        refine lv_aload_n X.hx X.hb dX4_allHunger_11 rfl (lv_at hl 0 rfl) ?_
        refine gf_X4_15 X hP 0 rfl (v := .ref (uM 8)) rfl dX4_allHunger_12 ?_
        refine lv_iload_n X.hx X.hb dX4_allHunger_15 rfl (lv_at hl 2 rfl) ?_
        obtain ⟨hi_5, hf⟩ := ck_i hf
        refine r_iald X hP 2 (f := (sM 7)) rfl hi_5 dX4_allHunger_16 ?_
        refine lv_iadd X.hx X.hb dX4_allHunger_17 ?_
        obtain ⟨n_6, en_6, hf⟩ := nv_i hf
        refine r_nm en_6 ?_
        refine lv_istore_n (lv' := [(1, .int n_6), (0, .ref (uM 0)), (2, .int v2_3)]) X.hx X.hb dX4_allHunger_18 rfl hl (by decide) rfl (fun ls hl => ?_)
        refine lv_iinc (v := (v2_3 + 1)) (lv' := [(2, .int (v2_3 + 1)), (1, .int n_6), (0, .ref (uM 0))]) X.hx X.hb dX4_allHunger_19 hl (k := 2) rfl rfl (by decide) rfl (fun ls hl => ?_)
        refine lv_goto (tgt := 4) X.hx X.hb dX4_allHunger_22 (by decide) ?_
        exact ih _ _ _ _ _ hf hP hD hS (lv_sub hl [2, 1, 0] rfl)
  exact hlo_1 N _ _ _ _ _ hf hP hD hS (lv_sub hl [2, 1, 0] rfl)

def f_X4_whyNotBuy (N : Nat) (iM : Nat → Int32) (sM : Nat → Nat → Int32) (iC : Nat → Int32) (tC : Nat → Nat → Int64) (sC : Nat → Nat → Int32) (p1 : Int32) (p2 : Int32) (p3 : Int32) : Option (Int32) :=
  (if p1 = p3 then some 1 else bd (f_X10_has N (iM 2) p1) (fun r_2 => (if r_2 = 0 then bd (f_X10_has N (iM 2) p3) (fun r_5 => (if r_5 = 0 then bd (f_X4_dealable N iM sM iC tC sC p1) (fun r_8 => bd (f_X10_has N r_8 p3) (fun r_10 => jn (fun (z : Unit) => match z with | () => bd (f_X10_cellOf N p3 p2) (fun r_15 => ck r_15 35 ((if (1 : Int32) ≤ ((sM 9) (ix r_15)) then bd (f_X10_cellOf N p3 p2) (fun r_19 => ck r_19 35 (ck p1 7 ((if ((sC 8) (ix r_19)) ≤ ((sM 6) (ix p1)) then bd (f_X10_cellOf N p1 p2) (fun r_24 => ck r_24 35 ((if (1 : Int32) ≤ ((sM 10) (ix r_24)) then some 0 else some 6))) else some 5)))) else some 4)))) (fun K_12 => (if r_10 = 0 then bd (f_X10_has N (iM 3) p1) (fun r_29 => (if r_29 = 0 then bd (f_X10_has N (iM 3) p3) (fun r_32 => (if r_32 = 0 then some 3 else K_12 ())) else K_12 ())) else K_12 ())))) else some 2)) else some 2)))
set_option maxHeartbeats 4000000 in
set_option maxRecDepth 100000 in
theorem c_X4_whyNotBuy (l : Launch) (G : GT) (N : Nat) (uM uC : Nat → Nat) (iM : Nat → Int32) (sM : Nat → Nat → Int32) (iC : Nat → Int32) (tC : Nat → Nat → Int64) (sC : Nat → Nat → Int32) (p1 : Int32) (p2 : Int32) (p3 : Int32) {r : Int32} (hf : f_X4_whyNotBuy N iM sM iC tC sC p1 p2 p3 = some r) : CI l G yX4_whyNotBuy cX4_whyNotBuy 4 .int 3 [.ref (uM 0), .int p1, .int p2, .int p3] (gM G uM (uC 0) iM sM ++ gC G uC iC tC sC) r (gM G uM (uC 0) iM sM ++ gC G uC iC tC sC) := by
  refine CI.of (by decide) (Nat.le_of_ble_eq_true rfl) ?_
  intro p e s m args below meth c A X hA hP hD hS ls hl
  have hl : lv_has ls 4 [(0, .ref (uM 0)), (1, .int p1), (2, .int p2), (3, .int p3)] := hl
  generalize hQ : MQ below (QI G A r (gM G uM (uC 0) iM sM ++ gC G uC iC tC sC)) args s 0 0 A = QQ
  unfold f_X4_whyNotBuy at hf
  refine lv_iload_n X.hx X.hb dX4_whyNotBuy_0 rfl (lv_at hl 1 rfl) ?_
  refine lv_iload_n X.hx X.hb dX4_whyNotBuy_1 rfl (lv_at hl 3 rfl) ?_
  refine lv_icmp_ne (tgt := 7) X.hx X.hb dX4_whyNotBuy_2 (by decide) (fun hc_1 => ?_) (fun hc_1 => ?_)
  · replace hf := if_f hf hc_1
    refine lv_aload_n X.hx X.hb dX4_whyNotBuy_7 rfl (lv_at hl 0 rfl) ?_
    refine gf_X4_62 X hP 0 rfl (v := .int (iM 2)) rfl dX4_whyNotBuy_8 ?_
    refine lv_iload_n X.hx X.hb dX4_whyNotBuy_11 rfl (lv_at hl 1 rfl) ?_
    obtain ⟨r_2, hc_3, hf⟩ := bd_i hf
    refine r_cn0 (As := [.int (iM 2), .int p1]) (rest := []) X sm_X4_108 (c_X10_has l G N (iM 2) p1 hc_3) hP hD hS hA rfl hl.1 (lv_room (Nat.le_of_ble_eq_true rfl)) ⟨Nat.le_of_ble_eq_true rfl, Nat.le_of_ble_eq_true rfl⟩ ⟨Nat.zero_le _, Nat.zero_le _⟩ dX4_whyNotBuy_12 (fun H locs hP hD hS => ?_)
    refine lv_if_ne (tgt := 29) X.hx X.hb dX4_whyNotBuy_15 (by decide) (fun hc_4 => ?_) (fun hc_4 => ?_)
    · replace hf := if_f hf hc_4
      refine lv_iconst (v := 2) X.hx X.hb dX4_whyNotBuy_29 (by decide) ?_
      cases hf
      subst hQ
      exact r_iret X hP hD hS dX4_whyNotBuy_30
    · replace hf := if_t hf hc_4
      refine lv_aload_n X.hx X.hb dX4_whyNotBuy_18 rfl (lv_at hl 0 rfl) ?_
      refine gf_X4_62 X hP 0 rfl (v := .int (iM 2)) rfl dX4_whyNotBuy_19 ?_
      refine lv_iload_n X.hx X.hb dX4_whyNotBuy_22 rfl (lv_at hl 3 rfl) ?_
      obtain ⟨r_5, hc_6, hf⟩ := bd_i hf
      refine r_cn0 (As := [.int (iM 2), .int p3]) (rest := []) X sm_X4_108 (c_X10_has l G N (iM 2) p3 hc_6) hP hD hS hA rfl hl.1 (lv_room (Nat.le_of_ble_eq_true rfl)) ⟨Nat.le_of_ble_eq_true rfl, Nat.le_of_ble_eq_true rfl⟩ ⟨Nat.zero_le _, Nat.zero_le _⟩ dX4_whyNotBuy_23 (fun H locs hP hD hS => ?_)
      refine lv_if_eq (tgt := 31) X.hx X.hb dX4_whyNotBuy_26 (by decide) (fun hc_7 => ?_) (fun hc_7 => ?_)
      · replace hf := if_t hf hc_7
        refine lv_aload_n X.hx X.hb dX4_whyNotBuy_31 rfl (lv_at hl 0 rfl) ?_
        refine lv_iload_n X.hx X.hb dX4_whyNotBuy_32 rfl (lv_at hl 1 rfl) ?_
        obtain ⟨r_8, hc_9, hf⟩ := bd_i hf
        refine r_wvi (As := [.int p1]) (rest := []) X sm_X4_112 (c_X4_dealable l G N uM uC iM sM iC tC sC p1 hc_9) hP hD hS hA 0 rfl rfl rfl hl.1 (lv_room (Nat.le_of_ble_eq_true rfl)) ⟨Nat.le_of_ble_eq_true rfl, Nat.le_of_ble_eq_true rfl⟩ ⟨Nat.zero_le _, Nat.zero_le _⟩ dX4_whyNotBuy_33 (fun H locs hP hD hS => ?_)
        refine lv_iload_n X.hx X.hb dX4_whyNotBuy_36 rfl (lv_at hl 3 rfl) ?_
        obtain ⟨r_10, hc_11, hf⟩ := bd_i hf
        refine r_cn0 (As := [.int r_8, .int p3]) (rest := []) X sm_X4_108 (c_X10_has l G N r_8 p3 hc_11) hP hD hS hA rfl hl.1 (lv_room (Nat.le_of_ble_eq_true rfl)) ⟨Nat.le_of_ble_eq_true rfl, Nat.le_of_ble_eq_true rfl⟩ ⟨Nat.zero_le _, Nat.zero_le _⟩ dX4_whyNotBuy_37 (fun H locs hP hD hS => ?_)
        obtain ⟨K_12, eK_14, hf⟩ := jn_i hf
        have hj_13 : ∀ (H : Heap) (locs : List Loc) (ls : Array Slot), K_12 () = some r → va_P G.1 vwCl (gM G uM (uC 0) iM sM ++ gC G uC iC tC sC) H → va_D A (gM G uM (uC 0) iM sM ++ gC G uC iC tC sC) → va_S A s.heap H locs → lv_has ls 4 [(0, .ref (uM 0)), (1, .int p1), (2, .int p2), (3, .int p3)] → W p l e (RM 3) s m args below meth c H locs 0 0 QQ (F0 m 67 ls []) := by
          intro  H locs ls hf hP hD hS hl
          rw [eK_14] at hf
          try dsimp only at hf
          refine lv_aload_n X.hx X.hb dX4_whyNotBuy_67 rfl (lv_at hl 0 rfl) ?_
          refine gf_X4_21 X hP 0 rfl (v := .ref (uM 10)) rfl dX4_whyNotBuy_68 ?_
          refine lv_iload_n X.hx X.hb dX4_whyNotBuy_71 rfl (lv_at hl 3 rfl) ?_
          refine lv_iload_n X.hx X.hb dX4_whyNotBuy_72 rfl (lv_at hl 2 rfl) ?_
          obtain ⟨r_15, hc_16, hf⟩ := bd_i hf
          refine r_cn0 (As := [.int p3, .int p2]) (rest := [.ref (uM 10)]) X sm_X4_90 (c_X10_cellOf l G N p3 p2 hc_16) hP hD hS hA rfl hl.1 (lv_room (Nat.le_of_ble_eq_true rfl)) ⟨Nat.le_of_ble_eq_true rfl, Nat.le_of_ble_eq_true rfl⟩ ⟨Nat.zero_le _, Nat.zero_le _⟩ dX4_whyNotBuy_73 (fun H locs hP hD hS => ?_)
          obtain ⟨hi_17, hf⟩ := ck_i hf
          refine r_iald X hP 4 (f := (sM 9)) rfl hi_17 dX4_whyNotBuy_76 ?_
          refine lv_iconst (v := 1) X.hx X.hb dX4_whyNotBuy_77 (by decide) ?_
          refine lv_icmp_ge (tgt := 83) X.hx X.hb dX4_whyNotBuy_78 (by decide) (fun hc_18 => ?_) (fun hc_18 => ?_)
          · replace hf := if_t hf hc_18
            refine lv_aload_n X.hx X.hb dX4_whyNotBuy_83 rfl (lv_at hl 0 rfl) ?_
            refine gf_X4_30 X hP 0 rfl (v := .ref (uC 0)) rfl dX4_whyNotBuy_84 ?_
            refine gf_X4_94 X hP 7 rfl (v := .ref (uC 9)) rfl dX4_whyNotBuy_87 ?_
            refine lv_iload_n X.hx X.hb dX4_whyNotBuy_90 rfl (lv_at hl 3 rfl) ?_
            refine lv_iload_n X.hx X.hb dX4_whyNotBuy_91 rfl (lv_at hl 2 rfl) ?_
            obtain ⟨r_19, hc_20, hf⟩ := bd_i hf
            refine r_cn0 (As := [.int p3, .int p2]) (rest := [.ref (uC 9)]) X sm_X4_90 (c_X10_cellOf l G N p3 p2 hc_20) hP hD hS hA rfl hl.1 (lv_room (Nat.le_of_ble_eq_true rfl)) ⟨Nat.le_of_ble_eq_true rfl, Nat.le_of_ble_eq_true rfl⟩ ⟨Nat.zero_le _, Nat.zero_le _⟩ dX4_whyNotBuy_92 (fun H locs hP hD hS => ?_)
            obtain ⟨hi_21, hf⟩ := ck_i hf
            refine r_iald X hP 14 (f := (sC 8)) rfl hi_21 dX4_whyNotBuy_95 ?_
            refine lv_aload_n X.hx X.hb dX4_whyNotBuy_96 rfl (lv_at hl 0 rfl) ?_
            refine gf_X4_9 X hP 0 rfl (v := .ref (uM 7)) rfl dX4_whyNotBuy_97 ?_
            refine lv_iload_n X.hx X.hb dX4_whyNotBuy_100 rfl (lv_at hl 1 rfl) ?_
            obtain ⟨hi_22, hf⟩ := ck_i hf
            refine r_iald X hP 1 (f := (sM 6)) rfl hi_22 dX4_whyNotBuy_101 ?_
            refine lv_icmp_le (tgt := 107) X.hx X.hb dX4_whyNotBuy_102 (by decide) (fun hc_23 => ?_) (fun hc_23 => ?_)
            · replace hf := if_t hf hc_23
              refine lv_aload_n X.hx X.hb dX4_whyNotBuy_107 rfl (lv_at hl 0 rfl) ?_
              refine gf_X4_24 X hP 0 rfl (v := .ref (uM 11)) rfl dX4_whyNotBuy_108 ?_
              refine lv_iload_n X.hx X.hb dX4_whyNotBuy_111 rfl (lv_at hl 1 rfl) ?_
              refine lv_iload_n X.hx X.hb dX4_whyNotBuy_112 rfl (lv_at hl 2 rfl) ?_
              obtain ⟨r_24, hc_25, hf⟩ := bd_i hf
              refine r_cn0 (As := [.int p1, .int p2]) (rest := [.ref (uM 11)]) X sm_X4_90 (c_X10_cellOf l G N p1 p2 hc_25) hP hD hS hA rfl hl.1 (lv_room (Nat.le_of_ble_eq_true rfl)) ⟨Nat.le_of_ble_eq_true rfl, Nat.le_of_ble_eq_true rfl⟩ ⟨Nat.zero_le _, Nat.zero_le _⟩ dX4_whyNotBuy_113 (fun H locs hP hD hS => ?_)
              obtain ⟨hi_26, hf⟩ := ck_i hf
              refine r_iald X hP 5 (f := (sM 10)) rfl hi_26 dX4_whyNotBuy_116 ?_
              refine lv_iconst (v := 1) X.hx X.hb dX4_whyNotBuy_117 (by decide) ?_
              refine lv_icmp_ge (tgt := 126) X.hx X.hb dX4_whyNotBuy_118 (by decide) (fun hc_27 => ?_) (fun hc_27 => ?_)
              · replace hf := if_t hf hc_27
                refine lv_iconst (v := 0) X.hx X.hb dX4_whyNotBuy_126 (by decide) ?_
                cases hf
                subst hQ
                exact r_iret X hP hD hS dX4_whyNotBuy_127
              · replace hf := if_f hf hc_27
                refine lv_bipush (v := 6) X.hx X.hb dX4_whyNotBuy_121 (by decide) ?_
                refine lv_goto (tgt := 127) X.hx X.hb dX4_whyNotBuy_123 (by decide) ?_
                cases hf
                subst hQ
                exact r_iret X hP hD hS dX4_whyNotBuy_127
            · replace hf := if_f hf hc_23
              refine lv_iconst (v := 5) X.hx X.hb dX4_whyNotBuy_105 (by decide) ?_
              cases hf
              subst hQ
              exact r_iret X hP hD hS dX4_whyNotBuy_106
          · replace hf := if_f hf hc_18
            refine lv_iconst (v := 4) X.hx X.hb dX4_whyNotBuy_81 (by decide) ?_
            cases hf
            subst hQ
            exact r_iret X hP hD hS dX4_whyNotBuy_82
        refine lv_if_ne (tgt := 67) X.hx X.hb dX4_whyNotBuy_40 (by decide) (fun hc_28 => ?_) (fun hc_28 => ?_)
        · replace hf := if_f hf hc_28
          exact hj_13 _ _ _ hf hP hD hS (lv_sub hl [0, 1, 2, 3] rfl)
        · replace hf := if_t hf hc_28
          refine lv_aload_n X.hx X.hb dX4_whyNotBuy_43 rfl (lv_at hl 0 rfl) ?_
          refine gf_X4_65 X hP 0 rfl (v := .int (iM 3)) rfl dX4_whyNotBuy_44 ?_
          refine lv_iload_n X.hx X.hb dX4_whyNotBuy_47 rfl (lv_at hl 1 rfl) ?_
          obtain ⟨r_29, hc_30, hf⟩ := bd_i hf
          refine r_cn0 (As := [.int (iM 3), .int p1]) (rest := []) X sm_X4_108 (c_X10_has l G N (iM 3) p1 hc_30) hP hD hS hA rfl hl.1 (lv_room (Nat.le_of_ble_eq_true rfl)) ⟨Nat.le_of_ble_eq_true rfl, Nat.le_of_ble_eq_true rfl⟩ ⟨Nat.zero_le _, Nat.zero_le _⟩ dX4_whyNotBuy_48 (fun H locs hP hD hS => ?_)
          refine lv_if_ne (tgt := 67) X.hx X.hb dX4_whyNotBuy_51 (by decide) (fun hc_31 => ?_) (fun hc_31 => ?_)
          · replace hf := if_f hf hc_31
            exact hj_13 _ _ _ hf hP hD hS (lv_sub hl [0, 1, 2, 3] rfl)
          · replace hf := if_t hf hc_31
            refine lv_aload_n X.hx X.hb dX4_whyNotBuy_54 rfl (lv_at hl 0 rfl) ?_
            refine gf_X4_65 X hP 0 rfl (v := .int (iM 3)) rfl dX4_whyNotBuy_55 ?_
            refine lv_iload_n X.hx X.hb dX4_whyNotBuy_58 rfl (lv_at hl 3 rfl) ?_
            obtain ⟨r_32, hc_33, hf⟩ := bd_i hf
            refine r_cn0 (As := [.int (iM 3), .int p3]) (rest := []) X sm_X4_108 (c_X10_has l G N (iM 3) p3 hc_33) hP hD hS hA rfl hl.1 (lv_room (Nat.le_of_ble_eq_true rfl)) ⟨Nat.le_of_ble_eq_true rfl, Nat.le_of_ble_eq_true rfl⟩ ⟨Nat.zero_le _, Nat.zero_le _⟩ dX4_whyNotBuy_59 (fun H locs hP hD hS => ?_)
            refine lv_if_ne (tgt := 67) X.hx X.hb dX4_whyNotBuy_62 (by decide) (fun hc_34 => ?_) (fun hc_34 => ?_)
            · replace hf := if_f hf hc_34
              exact hj_13 _ _ _ hf hP hD hS (lv_sub hl [0, 1, 2, 3] rfl)
            · replace hf := if_t hf hc_34
              refine lv_iconst (v := 3) X.hx X.hb dX4_whyNotBuy_65 (by decide) ?_
              cases hf
              subst hQ
              exact r_iret X hP hD hS dX4_whyNotBuy_66
      · replace hf := if_f hf hc_7
        refine lv_iconst (v := 2) X.hx X.hb dX4_whyNotBuy_29 (by decide) ?_
        cases hf
        subst hQ
        exact r_iret X hP hD hS dX4_whyNotBuy_30
  · replace hf := if_t hf hc_1
    refine lv_iconst (v := 1) X.hx X.hb dX4_whyNotBuy_5 (by decide) ?_
    cases hf
    subst hQ
    exact r_iret X hP hD hS dX4_whyNotBuy_6

def f_X4_meet (N : Nat) (iM : Nat → Int32) (sM : Nat → Nat → Int32) (iC : Nat → Int32) (tC : Nat → Nat → Int64) (sC : Nat → Nat → Int32) (p1 : Int32) (p2 : Int32) : Option ((Nat → Nat → Int32)) :=
  ck p1 7 (ck p1 7 (nv (upd (sM 8) (ix p1) (((sM 8) (ix p1)) ||| ((1 : Int32) <<< (p2 &&& 31)))) (fun g_3 => ck p2 7 (ck p2 7 (nv (upd g_3 (ix p2) ((g_3 (ix p2)) ||| ((1 : Int32) <<< (p1 &&& 31)))) (fun g_6 => some (va_up sM 8 g_6)))))))
set_option maxHeartbeats 4000000 in
set_option maxRecDepth 100000 in
theorem c_X4_meet (l : Launch) (G : GT) (N : Nat) (uM uC : Nat → Nat) (iM : Nat → Int32) (sM : Nat → Nat → Int32) (iC : Nat → Int32) (tC : Nat → Nat → Int64) (sC : Nat → Nat → Int32) (p1 : Int32) (p2 : Int32) {sM' : Nat → Nat → Int32} (hf : f_X4_meet N iM sM iC tC sC p1 p2 = some sM') : CV l G yX4_meet cX4_meet 3 1 [.ref (uM 0), .int p1, .int p2] (gM G uM (uC 0) iM sM ++ gC G uC iC tC sC) (gM G uM (uC 0) iM sM' ++ gC G uC iC tC sC) := by
  refine CV.of (by decide) (Nat.le_of_ble_eq_true rfl) ?_
  intro p e s m args below meth c A X hA hP hD hS ls hl
  have hl : lv_has ls 3 [(0, .ref (uM 0)), (1, .int p1), (2, .int p2)] := hl
  generalize hQ : MQ below (QV G A (gM G uM (uC 0) iM sM' ++ gC G uC iC tC sC)) args s 0 0 A = QQ
  unfold f_X4_meet at hf
  refine lv_aload_n X.hx X.hb dX4_meet_0 rfl (lv_at hl 0 rfl) ?_
  refine gf_X4_18 X hP 0 rfl (v := .ref (uM 9)) rfl dX4_meet_1 ?_
  refine lv_iload_n X.hx X.hb dX4_meet_4 rfl (lv_at hl 1 rfl) ?_
  refine lv_dup2_11 X.hx X.hb dX4_meet_5 rfl rfl ?_
  obtain ⟨hi_1, hf⟩ := ck_i hf
  refine r_iald X hP 3 (f := (sM 8)) rfl hi_1 dX4_meet_6 ?_
  refine lv_iconst (v := 1) X.hx X.hb dX4_meet_7 (by decide) ?_
  refine lv_iload_n X.hx X.hb dX4_meet_8 rfl (lv_at hl 2 rfl) ?_
  refine lv_ishl X.hx X.hb dX4_meet_9 ?_
  refine lv_ior X.hx X.hb dX4_meet_10 ?_
  obtain ⟨hi_2, hf⟩ := ck_i hf
  obtain ⟨g_3, eg_3, hf⟩ := nv_i hf
  refine r_iast X hP hD hS 3 (f := (sM 8)) rfl hi_2 (wo := (gM G uM (uC 0) iM (va_up sM 8 g_3) ++ gC G uC iC tC sC)) (by subst eg_3; rfl) dX4_meet_11 (fun H locs hP hD hS => ?_)
  refine lv_aload_n X.hx X.hb dX4_meet_12 rfl (lv_at hl 0 rfl) ?_
  refine gf_X4_18 X hP 0 rfl (v := .ref (uM 9)) rfl dX4_meet_13 ?_
  refine lv_iload_n X.hx X.hb dX4_meet_16 rfl (lv_at hl 2 rfl) ?_
  refine lv_dup2_11 X.hx X.hb dX4_meet_17 rfl rfl ?_
  obtain ⟨hi_4, hf⟩ := ck_i hf
  refine r_iald X hP 3 (f := g_3) rfl hi_4 dX4_meet_18 ?_
  refine lv_iconst (v := 1) X.hx X.hb dX4_meet_19 (by decide) ?_
  refine lv_iload_n X.hx X.hb dX4_meet_20 rfl (lv_at hl 1 rfl) ?_
  refine lv_ishl X.hx X.hb dX4_meet_21 ?_
  refine lv_ior X.hx X.hb dX4_meet_22 ?_
  obtain ⟨hi_5, hf⟩ := ck_i hf
  obtain ⟨g_6, eg_6, hf⟩ := nv_i hf
  refine r_iast X hP hD hS 3 (f := g_3) rfl hi_5 (wo := (gM G uM (uC 0) iM (va_up sM 8 g_6) ++ gC G uC iC tC sC)) (by subst eg_6; rfl) dX4_meet_23 (fun H locs hP hD hS => ?_)
  cases hf
  subst hQ
  exact r_vret X hP hD hS dX4_meet_24

def f_X4_doBuy (N : Nat) (iM : Nat → Int32) (sM : Nat → Nat → Int32) (iC : Nat → Int32) (tC : Nat → Nat → Int64) (sC : Nat → Nat → Int32) (p1 : Int32) (p2 : Int32) (p3 : Int32) : Option ((Nat → Int32) × (Nat → Nat → Int32)) :=
  bd (f_X10_cellOf N p3 p2) (fun r_1 => ck r_1 35 (bd (f_X10_cellOf N p3 p2) (fun r_4 => ck r_4 35 (ck r_4 35 (nv (upd (sM 9) (ix r_4) (((sM 9) (ix r_4)) - 1)) (fun g_8 => bd (f_X10_cellOf N p1 p2) (fun r_9 => ck r_9 35 (ck r_9 35 (nv (upd (sM 10) (ix r_9) (((sM 10) (ix r_9)) - 1)) (fun g_13 => ck p1 7 (ck p1 7 (nv (upd (sM 6) (ix p1) (((sM 6) (ix p1)) - ((sC 8) (ix r_1)))) (fun g_16 => ck p3 7 (ck p3 7 (nv (upd g_16 (ix p3) ((g_16 (ix p3)) + ((sC 8) (ix r_1)))) (fun g_19 => bd (f_X10_has N (iM 3) p1) (fun r_20 => (if r_20 = 0 then bd (f_X10_has N (iM 3) p3) (fun r_23 => (if r_23 = 0 then bd (f_X10_pairOf N p1 p3) (fun r_26 => ck r_26 49 (ck r_26 49 (nv (upd (sM 11) (ix r_26) (((sM 11) (ix r_26)) + 1)) (fun g_30 => bd (f_X10_pairOf N p3 p1) (fun r_31 => ck r_31 49 (ck r_31 49 (nv (upd g_30 (ix r_31) ((g_30 (ix r_31)) + 1)) (fun g_35 => bd (f_X10_pairOf N p1 p3) (fun r_36 => ck r_36 49 ((if (g_35 (ix r_36)) < (iC 9) then some ((va_up iM 5 ((iM 5) + 1)), (va_up (va_up (va_up (va_up sM 9 g_8) 10 g_13) 6 g_19) 11 g_35)) else bd (f_X4_meet N (va_up iM 5 ((iM 5) + 1)) (va_up (va_up (va_up (va_up sM 9 g_8) 10 g_13) 6 g_19) 11 g_35) iC tC sC p1 p3) (fun sM_40 => some ((va_up iM 5 ((iM 5) + 1)), sM_40))))))))))))) else some ((va_up iM 5 ((iM 5) + 1)), (va_up (va_up (va_up sM 9 g_8) 10 g_13) 6 g_19)))) else some ((va_up iM 5 ((iM 5) + 1)), (va_up (va_up (va_up sM 9 g_8) 10 g_13) 6 g_19))))))))))))))))))))
set_option maxHeartbeats 4000000 in
set_option maxRecDepth 100000 in
theorem c_X4_doBuy (l : Launch) (G : GT) (N : Nat) (uM uC : Nat → Nat) (iM : Nat → Int32) (sM : Nat → Nat → Int32) (iC : Nat → Int32) (tC : Nat → Nat → Int64) (sC : Nat → Nat → Int32) (p1 : Int32) (p2 : Int32) (p3 : Int32) {iM' : Nat → Int32} {sM' : Nat → Nat → Int32} (hf : f_X4_doBuy N iM sM iC tC sC p1 p2 p3 = some (iM', sM')) : CV l G yX4_doBuy cX4_doBuy 5 2 [.ref (uM 0), .int p1, .int p2, .int p3] (gM G uM (uC 0) iM sM ++ gC G uC iC tC sC) (gM G uM (uC 0) iM' sM' ++ gC G uC iC tC sC) := by
  refine CV.of (by decide) (Nat.le_of_ble_eq_true rfl) ?_
  intro p e s m args below meth c A X hA hP hD hS ls hl
  have hl : lv_has ls 5 [(0, .ref (uM 0)), (1, .int p1), (2, .int p2), (3, .int p3)] := hl
  generalize hQ : MQ below (QV G A (gM G uM (uC 0) iM' sM' ++ gC G uC iC tC sC)) args s 0 0 A = QQ
  unfold f_X4_doBuy at hf
  refine lv_aload_n X.hx X.hb dX4_doBuy_0 rfl (lv_at hl 0 rfl) ?_
  refine gf_X4_30 X hP 0 rfl (v := .ref (uC 0)) rfl dX4_doBuy_1 ?_
  refine gf_X4_94 X hP 7 rfl (v := .ref (uC 9)) rfl dX4_doBuy_4 ?_
  refine lv_iload_n X.hx X.hb dX4_doBuy_7 rfl (lv_at hl 3 rfl) ?_
  refine lv_iload_n X.hx X.hb dX4_doBuy_8 rfl (lv_at hl 2 rfl) ?_
  obtain ⟨r_1, hc_2, hf⟩ := bd_i hf
  refine r_cn0 (As := [.int p3, .int p2]) (rest := [.ref (uC 9)]) X sm_X4_90 (c_X10_cellOf l G N p3 p2 hc_2) hP hD hS hA rfl hl.1 (lv_room (Nat.le_of_ble_eq_true rfl)) ⟨Nat.le_of_ble_eq_true rfl, Nat.le_of_ble_eq_true rfl⟩ ⟨Nat.zero_le _, Nat.zero_le _⟩ dX4_doBuy_9 (fun H locs hP hD hS => ?_)
  obtain ⟨hi_3, hf⟩ := ck_i hf
  refine r_iald X hP 14 (f := (sC 8)) rfl hi_3 dX4_doBuy_12 ?_
  refine lv_istore (lv' := [(4, .int ((sC 8) (ix r_1))), (0, .ref (uM 0)), (1, .int p1), (2, .int p2), (3, .int p3)]) X.hx X.hb dX4_doBuy_13 hl (by decide) rfl (fun ls hl => ?_)
  refine lv_aload_n X.hx X.hb dX4_doBuy_15 rfl (lv_at hl 1 rfl) ?_
  refine gf_X4_21 X hP 0 rfl (v := .ref (uM 10)) rfl dX4_doBuy_16 ?_
  refine lv_iload_n X.hx X.hb dX4_doBuy_19 rfl (lv_at hl 4 rfl) ?_
  refine lv_iload_n X.hx X.hb dX4_doBuy_20 rfl (lv_at hl 3 rfl) ?_
  obtain ⟨r_4, hc_5, hf⟩ := bd_i hf
  refine r_cn0 (As := [.int p3, .int p2]) (rest := [.ref (uM 10)]) X sm_X4_90 (c_X10_cellOf l G N p3 p2 hc_5) hP hD hS hA rfl hl.1 (lv_room (Nat.le_of_ble_eq_true rfl)) ⟨Nat.le_of_ble_eq_true rfl, Nat.le_of_ble_eq_true rfl⟩ ⟨Nat.zero_le _, Nat.zero_le _⟩ dX4_doBuy_21 (fun H locs hP hD hS => ?_)
  refine lv_dup2_11 X.hx X.hb dX4_doBuy_24 rfl rfl ?_
  obtain ⟨hi_6, hf⟩ := ck_i hf
  refine r_iald X hP 4 (f := (sM 9)) rfl hi_6 dX4_doBuy_25 ?_
  refine lv_iconst (v := 1) X.hx X.hb dX4_doBuy_26 (by decide) ?_
  refine lv_isub X.hx X.hb dX4_doBuy_27 ?_
  obtain ⟨hi_7, hf⟩ := ck_i hf
  obtain ⟨g_8, eg_8, hf⟩ := nv_i hf
  refine r_iast X hP hD hS 4 (f := (sM 9)) rfl hi_7 (wo := (gM G uM (uC 0) iM (va_up sM 9 g_8) ++ gC G uC iC tC sC)) (by subst eg_8; rfl) dX4_doBuy_28 (fun H locs hP hD hS => ?_)
  refine lv_aload_n X.hx X.hb dX4_doBuy_29 rfl (lv_at hl 1 rfl) ?_
  refine gf_X4_24 X hP 0 rfl (v := .ref (uM 11)) rfl dX4_doBuy_30 ?_
  refine lv_iload_n X.hx X.hb dX4_doBuy_33 rfl (lv_at hl 2 rfl) ?_
  refine lv_iload_n X.hx X.hb dX4_doBuy_34 rfl (lv_at hl 3 rfl) ?_
  obtain ⟨r_9, hc_10, hf⟩ := bd_i hf
  refine r_cn0 (As := [.int p1, .int p2]) (rest := [.ref (uM 11)]) X sm_X4_90 (c_X10_cellOf l G N p1 p2 hc_10) hP hD hS hA rfl hl.1 (lv_room (Nat.le_of_ble_eq_true rfl)) ⟨Nat.le_of_ble_eq_true rfl, Nat.le_of_ble_eq_true rfl⟩ ⟨Nat.zero_le _, Nat.zero_le _⟩ dX4_doBuy_35 (fun H locs hP hD hS => ?_)
  refine lv_dup2_11 X.hx X.hb dX4_doBuy_38 rfl rfl ?_
  obtain ⟨hi_11, hf⟩ := ck_i hf
  refine r_iald X hP 5 (f := (sM 10)) rfl hi_11 dX4_doBuy_39 ?_
  refine lv_iconst (v := 1) X.hx X.hb dX4_doBuy_40 (by decide) ?_
  refine lv_isub X.hx X.hb dX4_doBuy_41 ?_
  obtain ⟨hi_12, hf⟩ := ck_i hf
  obtain ⟨g_13, eg_13, hf⟩ := nv_i hf
  refine r_iast X hP hD hS 5 (f := (sM 10)) rfl hi_12 (wo := (gM G uM (uC 0) iM (va_up (va_up sM 9 g_8) 10 g_13) ++ gC G uC iC tC sC)) (by subst eg_13; rfl) dX4_doBuy_42 (fun H locs hP hD hS => ?_)
  refine lv_aload_n X.hx X.hb dX4_doBuy_43 rfl (lv_at hl 1 rfl) ?_
  refine gf_X4_9 X hP 0 rfl (v := .ref (uM 7)) rfl dX4_doBuy_44 ?_
  refine lv_iload_n X.hx X.hb dX4_doBuy_47 rfl (lv_at hl 2 rfl) ?_
  refine lv_dup2_11 X.hx X.hb dX4_doBuy_48 rfl rfl ?_
  obtain ⟨hi_14, hf⟩ := ck_i hf
  refine r_iald X hP 1 (f := (sM 6)) rfl hi_14 dX4_doBuy_49 ?_
  refine lv_iload X.hx X.hb dX4_doBuy_50 (lv_at hl 0 rfl) ?_
  refine lv_isub X.hx X.hb dX4_doBuy_52 ?_
  obtain ⟨hi_15, hf⟩ := ck_i hf
  obtain ⟨g_16, eg_16, hf⟩ := nv_i hf
  refine r_iast X hP hD hS 1 (f := (sM 6)) rfl hi_15 (wo := (gM G uM (uC 0) iM (va_up (va_up (va_up sM 9 g_8) 10 g_13) 6 g_16) ++ gC G uC iC tC sC)) (by subst eg_16; rfl) dX4_doBuy_53 (fun H locs hP hD hS => ?_)
  refine lv_aload_n X.hx X.hb dX4_doBuy_54 rfl (lv_at hl 1 rfl) ?_
  refine gf_X4_9 X hP 0 rfl (v := .ref (uM 7)) rfl dX4_doBuy_55 ?_
  refine lv_iload_n X.hx X.hb dX4_doBuy_58 rfl (lv_at hl 4 rfl) ?_
  refine lv_dup2_11 X.hx X.hb dX4_doBuy_59 rfl rfl ?_
  obtain ⟨hi_17, hf⟩ := ck_i hf
  refine r_iald X hP 1 (f := g_16) rfl hi_17 dX4_doBuy_60 ?_
  refine lv_iload X.hx X.hb dX4_doBuy_61 (lv_at hl 0 rfl) ?_
  refine lv_iadd X.hx X.hb dX4_doBuy_63 ?_
  obtain ⟨hi_18, hf⟩ := ck_i hf
  obtain ⟨g_19, eg_19, hf⟩ := nv_i hf
  refine r_iast X hP hD hS 1 (f := g_16) rfl hi_18 (wo := (gM G uM (uC 0) iM (va_up (va_up (va_up sM 9 g_8) 10 g_13) 6 g_19) ++ gC G uC iC tC sC)) (by subst eg_19; rfl) dX4_doBuy_64 (fun H locs hP hD hS => ?_)
  refine lv_aload_n X.hx X.hb dX4_doBuy_65 rfl (lv_at hl 1 rfl) ?_
  refine lv_dup X.hx X.hb dX4_doBuy_66 rfl ?_
  refine gf_X4_38 X hP 0 rfl (v := .int (iM 5)) rfl dX4_doBuy_67 ?_
  refine lv_iconst (v := 1) X.hx X.hb dX4_doBuy_70 (by decide) ?_
  refine lv_iadd X.hx X.hb dX4_doBuy_71 ?_
  refine pf_X4_38 X hP hD hS 0 rfl rfl rfl (Nat.le_of_ble_eq_true rfl) (wo := (gM G uM (uC 0) (va_up iM 5 ((iM 5) + 1)) (va_up (va_up (va_up sM 9 g_8) 10 g_13) 6 g_19) ++ gC G uC iC tC sC)) rfl dX4_doBuy_72 (fun H locs hP hD hS => ?_)
  refine lv_aload_n X.hx X.hb dX4_doBuy_75 rfl (lv_at hl 1 rfl) ?_
  refine gf_X4_65 X hP 0 rfl (v := .int (iM 3)) rfl dX4_doBuy_76 ?_
  refine lv_iload_n X.hx X.hb dX4_doBuy_79 rfl (lv_at hl 2 rfl) ?_
  obtain ⟨r_20, hc_21, hf⟩ := bd_i hf
  refine r_cn0 (As := [.int (iM 3), .int p1]) (rest := []) X sm_X4_108 (c_X10_has l G N (iM 3) p1 hc_21) hP hD hS hA rfl hl.1 (lv_room (Nat.le_of_ble_eq_true rfl)) ⟨Nat.le_of_ble_eq_true rfl, Nat.le_of_ble_eq_true rfl⟩ ⟨Nat.zero_le _, Nat.zero_le _⟩ dX4_doBuy_80 (fun H locs hP hD hS => ?_)
  refine lv_if_ne (tgt := 97) X.hx X.hb dX4_doBuy_83 (by decide) (fun hc_22 => ?_) (fun hc_22 => ?_)
  · replace hf := if_f hf hc_22
    cases hf
    subst hQ
    exact r_vret X hP hD hS dX4_doBuy_97
  · replace hf := if_t hf hc_22
    refine lv_aload_n X.hx X.hb dX4_doBuy_86 rfl (lv_at hl 1 rfl) ?_
    refine gf_X4_65 X hP 0 rfl (v := .int (iM 3)) rfl dX4_doBuy_87 ?_
    refine lv_iload_n X.hx X.hb dX4_doBuy_90 rfl (lv_at hl 4 rfl) ?_
    obtain ⟨r_23, hc_24, hf⟩ := bd_i hf
    refine r_cn0 (As := [.int (iM 3), .int p3]) (rest := []) X sm_X4_108 (c_X10_has l G N (iM 3) p3 hc_24) hP hD hS hA rfl hl.1 (lv_room (Nat.le_of_ble_eq_true rfl)) ⟨Nat.le_of_ble_eq_true rfl, Nat.le_of_ble_eq_true rfl⟩ ⟨Nat.zero_le _, Nat.zero_le _⟩ dX4_doBuy_91 (fun H locs hP hD hS => ?_)
    refine lv_if_eq (tgt := 98) X.hx X.hb dX4_doBuy_94 (by decide) (fun hc_25 => ?_) (fun hc_25 => ?_)
    · replace hf := if_t hf hc_25
      refine lv_aload_n X.hx X.hb dX4_doBuy_98 rfl (lv_at hl 1 rfl) ?_
      refine gf_X4_27 X hP 0 rfl (v := .ref (uM 12)) rfl dX4_doBuy_99 ?_
      refine lv_iload_n X.hx X.hb dX4_doBuy_102 rfl (lv_at hl 2 rfl) ?_
      refine lv_iload_n X.hx X.hb dX4_doBuy_103 rfl (lv_at hl 4 rfl) ?_
      obtain ⟨r_26, hc_27, hf⟩ := bd_i hf
      refine r_cn0 (As := [.int p1, .int p3]) (rest := [.ref (uM 12)]) X sm_X4_115 (c_X10_pairOf l G N p1 p3 hc_27) hP hD hS hA rfl hl.1 (lv_room (Nat.le_of_ble_eq_true rfl)) ⟨Nat.le_of_ble_eq_true rfl, Nat.le_of_ble_eq_true rfl⟩ ⟨Nat.zero_le _, Nat.zero_le _⟩ dX4_doBuy_104 (fun H locs hP hD hS => ?_)
      refine lv_dup2_11 X.hx X.hb dX4_doBuy_107 rfl rfl ?_
      obtain ⟨hi_28, hf⟩ := ck_i hf
      refine r_iald X hP 6 (f := (sM 11)) rfl hi_28 dX4_doBuy_108 ?_
      refine lv_iconst (v := 1) X.hx X.hb dX4_doBuy_109 (by decide) ?_
      refine lv_iadd X.hx X.hb dX4_doBuy_110 ?_
      obtain ⟨hi_29, hf⟩ := ck_i hf
      obtain ⟨g_30, eg_30, hf⟩ := nv_i hf
      refine r_iast X hP hD hS 6 (f := (sM 11)) rfl hi_29 (wo := (gM G uM (uC 0) (va_up iM 5 ((iM 5) + 1)) (va_up (va_up (va_up (va_up sM 9 g_8) 10 g_13) 6 g_19) 11 g_30) ++ gC G uC iC tC sC)) (by subst eg_30; rfl) dX4_doBuy_111 (fun H locs hP hD hS => ?_)
      refine lv_aload_n X.hx X.hb dX4_doBuy_112 rfl (lv_at hl 1 rfl) ?_
      refine gf_X4_27 X hP 0 rfl (v := .ref (uM 12)) rfl dX4_doBuy_113 ?_
      refine lv_iload_n X.hx X.hb dX4_doBuy_116 rfl (lv_at hl 4 rfl) ?_
      refine lv_iload_n X.hx X.hb dX4_doBuy_117 rfl (lv_at hl 2 rfl) ?_
      obtain ⟨r_31, hc_32, hf⟩ := bd_i hf
      refine r_cn0 (As := [.int p3, .int p1]) (rest := [.ref (uM 12)]) X sm_X4_115 (c_X10_pairOf l G N p3 p1 hc_32) hP hD hS hA rfl hl.1 (lv_room (Nat.le_of_ble_eq_true rfl)) ⟨Nat.le_of_ble_eq_true rfl, Nat.le_of_ble_eq_true rfl⟩ ⟨Nat.zero_le _, Nat.zero_le _⟩ dX4_doBuy_118 (fun H locs hP hD hS => ?_)
      refine lv_dup2_11 X.hx X.hb dX4_doBuy_121 rfl rfl ?_
      obtain ⟨hi_33, hf⟩ := ck_i hf
      refine r_iald X hP 6 (f := g_30) rfl hi_33 dX4_doBuy_122 ?_
      refine lv_iconst (v := 1) X.hx X.hb dX4_doBuy_123 (by decide) ?_
      refine lv_iadd X.hx X.hb dX4_doBuy_124 ?_
      obtain ⟨hi_34, hf⟩ := ck_i hf
      obtain ⟨g_35, eg_35, hf⟩ := nv_i hf
      refine r_iast X hP hD hS 6 (f := g_30) rfl hi_34 (wo := (gM G uM (uC 0) (va_up iM 5 ((iM 5) + 1)) (va_up (va_up (va_up (va_up sM 9 g_8) 10 g_13) 6 g_19) 11 g_35) ++ gC G uC iC tC sC)) (by subst eg_35; rfl) dX4_doBuy_125 (fun H locs hP hD hS => ?_)
      refine lv_aload_n X.hx X.hb dX4_doBuy_126 rfl (lv_at hl 1 rfl) ?_
      refine gf_X4_27 X hP 0 rfl (v := .ref (uM 12)) rfl dX4_doBuy_127 ?_
      refine lv_iload_n X.hx X.hb dX4_doBuy_130 rfl (lv_at hl 2 rfl) ?_
      refine lv_iload_n X.hx X.hb dX4_doBuy_131 rfl (lv_at hl 4 rfl) ?_
      obtain ⟨r_36, hc_37, hf⟩ := bd_i hf
      refine r_cn0 (As := [.int p1, .int p3]) (rest := [.ref (uM 12)]) X sm_X4_115 (c_X10_pairOf l G N p1 p3 hc_37) hP hD hS hA rfl hl.1 (lv_room (Nat.le_of_ble_eq_true rfl)) ⟨Nat.le_of_ble_eq_true rfl, Nat.le_of_ble_eq_true rfl⟩ ⟨Nat.zero_le _, Nat.zero_le _⟩ dX4_doBuy_132 (fun H locs hP hD hS => ?_)
      obtain ⟨hi_38, hf⟩ := ck_i hf
      refine r_iald X hP 6 (f := g_35) rfl hi_38 dX4_doBuy_135 ?_
      refine lv_aload_n X.hx X.hb dX4_doBuy_136 rfl (lv_at hl 1 rfl) ?_
      refine gf_X4_30 X hP 0 rfl (v := .ref (uC 0)) rfl dX4_doBuy_137 ?_
      refine gf_X4_118 X hP 7 rfl (v := .int (iC 9)) rfl dX4_doBuy_140 ?_
      refine lv_icmp_lt (tgt := 152) X.hx X.hb dX4_doBuy_143 (by decide) (fun hc_39 => ?_) (fun hc_39 => ?_)
      · replace hf := if_t hf hc_39
        cases hf
        subst hQ
        exact r_vret X hP hD hS dX4_doBuy_152
      · replace hf := if_f hf hc_39
        refine lv_aload_n X.hx X.hb dX4_doBuy_146 rfl (lv_at hl 1 rfl) ?_
        refine lv_iload_n X.hx X.hb dX4_doBuy_147 rfl (lv_at hl 2 rfl) ?_
        refine lv_iload_n X.hx X.hb dX4_doBuy_148 rfl (lv_at hl 4 rfl) ?_
        obtain ⟨sM_40, hc_41, hf⟩ := bd_i hf
        refine r_wvv (As := [.int p1, .int p3]) (rest := []) X sm_X4_120 (c_X4_meet l G N uM uC (va_up iM 5 ((iM 5) + 1)) (va_up (va_up (va_up (va_up sM 9 g_8) 10 g_13) 6 g_19) 11 g_35) iC tC sC p1 p3 hc_41) hP hD hS hA 0 rfl rfl rfl hl.1 (lv_room (Nat.le_of_ble_eq_true rfl)) ⟨Nat.le_of_ble_eq_true rfl, Nat.le_of_ble_eq_true rfl⟩ ⟨Nat.zero_le _, Nat.zero_le _⟩ dX4_doBuy_149 (fun H locs hP hD hS => ?_)
        cases hf
        subst hQ
        exact r_vret X hP hD hS dX4_doBuy_152
    · replace hf := if_f hf hc_25
      cases hf
      subst hQ
      exact r_vret X hP hD hS dX4_doBuy_97

def f_X4_whyNotNod (N : Nat) (iM : Nat → Int32) (sM : Nat → Nat → Int32) (iC : Nat → Int32) (tC : Nat → Nat → Int64) (sC : Nat → Nat → Int32) (p1 : Int32) (p2 : Int32) : Option (Int32) :=
  (if p1 = p2 then some 1 else bd (f_X10_has N (iM 2) p1) (fun r_2 => (if r_2 = 0 then bd (f_X10_has N (iM 2) p2) (fun r_5 => (if r_5 = 0 then bd (f_X4_known N iM sM iC tC sC p1) (fun r_8 => bd (f_X10_has N r_8 p2) (fun r_10 => (if r_10 = 0 then some 0 else some 3))) else some 2)) else some 2)))
set_option maxHeartbeats 4000000 in
set_option maxRecDepth 100000 in
theorem c_X4_whyNotNod (l : Launch) (G : GT) (N : Nat) (uM uC : Nat → Nat) (iM : Nat → Int32) (sM : Nat → Nat → Int32) (iC : Nat → Int32) (tC : Nat → Nat → Int64) (sC : Nat → Nat → Int32) (p1 : Int32) (p2 : Int32) {r : Int32} (hf : f_X4_whyNotNod N iM sM iC tC sC p1 p2 = some r) : CI l G yX4_whyNotNod cX4_whyNotNod 3 .int 2 [.ref (uM 0), .int p1, .int p2] (gM G uM (uC 0) iM sM ++ gC G uC iC tC sC) r (gM G uM (uC 0) iM sM ++ gC G uC iC tC sC) := by
  refine CI.of (by decide) (Nat.le_of_ble_eq_true rfl) ?_
  intro p e s m args below meth c A X hA hP hD hS ls hl
  have hl : lv_has ls 3 [(0, .ref (uM 0)), (1, .int p1), (2, .int p2)] := hl
  generalize hQ : MQ below (QI G A r (gM G uM (uC 0) iM sM ++ gC G uC iC tC sC)) args s 0 0 A = QQ
  unfold f_X4_whyNotNod at hf
  refine lv_iload_n X.hx X.hb dX4_whyNotNod_0 rfl (lv_at hl 1 rfl) ?_
  refine lv_iload_n X.hx X.hb dX4_whyNotNod_1 rfl (lv_at hl 2 rfl) ?_
  refine lv_icmp_ne (tgt := 7) X.hx X.hb dX4_whyNotNod_2 (by decide) (fun hc_1 => ?_) (fun hc_1 => ?_)
  · replace hf := if_f hf hc_1
    refine lv_aload_n X.hx X.hb dX4_whyNotNod_7 rfl (lv_at hl 0 rfl) ?_
    refine gf_X4_62 X hP 0 rfl (v := .int (iM 2)) rfl dX4_whyNotNod_8 ?_
    refine lv_iload_n X.hx X.hb dX4_whyNotNod_11 rfl (lv_at hl 1 rfl) ?_
    obtain ⟨r_2, hc_3, hf⟩ := bd_i hf
    refine r_cn0 (As := [.int (iM 2), .int p1]) (rest := []) X sm_X4_108 (c_X10_has l G N (iM 2) p1 hc_3) hP hD hS hA rfl hl.1 (lv_room (Nat.le_of_ble_eq_true rfl)) ⟨Nat.le_of_ble_eq_true rfl, Nat.le_of_ble_eq_true rfl⟩ ⟨Nat.zero_le _, Nat.zero_le _⟩ dX4_whyNotNod_12 (fun H locs hP hD hS => ?_)
    refine lv_if_ne (tgt := 29) X.hx X.hb dX4_whyNotNod_15 (by decide) (fun hc_4 => ?_) (fun hc_4 => ?_)
    · replace hf := if_f hf hc_4
      refine lv_iconst (v := 2) X.hx X.hb dX4_whyNotNod_29 (by decide) ?_
      cases hf
      subst hQ
      exact r_iret X hP hD hS dX4_whyNotNod_30
    · replace hf := if_t hf hc_4
      refine lv_aload_n X.hx X.hb dX4_whyNotNod_18 rfl (lv_at hl 0 rfl) ?_
      refine gf_X4_62 X hP 0 rfl (v := .int (iM 2)) rfl dX4_whyNotNod_19 ?_
      refine lv_iload_n X.hx X.hb dX4_whyNotNod_22 rfl (lv_at hl 2 rfl) ?_
      obtain ⟨r_5, hc_6, hf⟩ := bd_i hf
      refine r_cn0 (As := [.int (iM 2), .int p2]) (rest := []) X sm_X4_108 (c_X10_has l G N (iM 2) p2 hc_6) hP hD hS hA rfl hl.1 (lv_room (Nat.le_of_ble_eq_true rfl)) ⟨Nat.le_of_ble_eq_true rfl, Nat.le_of_ble_eq_true rfl⟩ ⟨Nat.zero_le _, Nat.zero_le _⟩ dX4_whyNotNod_23 (fun H locs hP hD hS => ?_)
      refine lv_if_eq (tgt := 31) X.hx X.hb dX4_whyNotNod_26 (by decide) (fun hc_7 => ?_) (fun hc_7 => ?_)
      · replace hf := if_t hf hc_7
        refine lv_aload_n X.hx X.hb dX4_whyNotNod_31 rfl (lv_at hl 0 rfl) ?_
        refine lv_iload_n X.hx X.hb dX4_whyNotNod_32 rfl (lv_at hl 1 rfl) ?_
        obtain ⟨r_8, hc_9, hf⟩ := bd_i hf
        refine r_wvi (As := [.int p1]) (rest := []) X sm_X4_79 (c_X4_known l G N uM uC iM sM iC tC sC p1 hc_9) hP hD hS hA 0 rfl rfl rfl hl.1 (lv_room (Nat.le_of_ble_eq_true rfl)) ⟨Nat.le_of_ble_eq_true rfl, Nat.le_of_ble_eq_true rfl⟩ ⟨Nat.zero_le _, Nat.zero_le _⟩ dX4_whyNotNod_33 (fun H locs hP hD hS => ?_)
        refine lv_iload_n X.hx X.hb dX4_whyNotNod_36 rfl (lv_at hl 2 rfl) ?_
        obtain ⟨r_10, hc_11, hf⟩ := bd_i hf
        refine r_cn0 (As := [.int r_8, .int p2]) (rest := []) X sm_X4_108 (c_X10_has l G N r_8 p2 hc_11) hP hD hS hA rfl hl.1 (lv_room (Nat.le_of_ble_eq_true rfl)) ⟨Nat.le_of_ble_eq_true rfl, Nat.le_of_ble_eq_true rfl⟩ ⟨Nat.zero_le _, Nat.zero_le _⟩ dX4_whyNotNod_37 (fun H locs hP hD hS => ?_)
        refine lv_if_eq (tgt := 47) X.hx X.hb dX4_whyNotNod_40 (by decide) (fun hc_12 => ?_) (fun hc_12 => ?_)
        · replace hf := if_t hf hc_12
          refine lv_iconst (v := 0) X.hx X.hb dX4_whyNotNod_47 (by decide) ?_
          cases hf
          subst hQ
          exact r_iret X hP hD hS dX4_whyNotNod_48
        · replace hf := if_f hf hc_12
          refine lv_iconst (v := 3) X.hx X.hb dX4_whyNotNod_43 (by decide) ?_
          refine lv_goto (tgt := 48) X.hx X.hb dX4_whyNotNod_44 (by decide) ?_
          cases hf
          subst hQ
          exact r_iret X hP hD hS dX4_whyNotNod_48
      · replace hf := if_f hf hc_7
        refine lv_iconst (v := 2) X.hx X.hb dX4_whyNotNod_29 (by decide) ?_
        cases hf
        subst hQ
        exact r_iret X hP hD hS dX4_whyNotNod_30
  · replace hf := if_t hf hc_1
    refine lv_iconst (v := 1) X.hx X.hb dX4_whyNotNod_5 (by decide) ?_
    cases hf
    subst hQ
    exact r_iret X hP hD hS dX4_whyNotNod_6

def f_X4_doNod (N : Nat) (iM : Nat → Int32) (sM : Nat → Nat → Int32) (iC : Nat → Int32) (tC : Nat → Nat → Int64) (sC : Nat → Nat → Int32) (p1 : Int32) (p2 : Int32) : Option ((Nat → Int32) × (Nat → Nat → Int32)) :=
  bd (f_X4_meet N iM sM iC tC sC p1 p2) (fun sM_1 => nv ((iM 2) ||| ((1 : Int32) <<< (p1 &&& 31))) (fun n_3 => some ((va_up iM 2 n_3), sM_1)))
set_option maxHeartbeats 4000000 in
set_option maxRecDepth 100000 in
theorem c_X4_doNod (l : Launch) (G : GT) (N : Nat) (uM uC : Nat → Nat) (iM : Nat → Int32) (sM : Nat → Nat → Int32) (iC : Nat → Int32) (tC : Nat → Nat → Int64) (sC : Nat → Nat → Int32) (p1 : Int32) (p2 : Int32) {iM' : Nat → Int32} {sM' : Nat → Nat → Int32} (hf : f_X4_doNod N iM sM iC tC sC p1 p2 = some (iM', sM')) : CV l G yX4_doNod cX4_doNod 3 2 [.ref (uM 0), .int p1, .int p2] (gM G uM (uC 0) iM sM ++ gC G uC iC tC sC) (gM G uM (uC 0) iM' sM' ++ gC G uC iC tC sC) := by
  refine CV.of (by decide) (Nat.le_of_ble_eq_true rfl) ?_
  intro p e s m args below meth c A X hA hP hD hS ls hl
  have hl : lv_has ls 3 [(0, .ref (uM 0)), (1, .int p1), (2, .int p2)] := hl
  generalize hQ : MQ below (QV G A (gM G uM (uC 0) iM' sM' ++ gC G uC iC tC sC)) args s 0 0 A = QQ
  unfold f_X4_doNod at hf
  refine lv_aload_n X.hx X.hb dX4_doNod_0 rfl (lv_at hl 0 rfl) ?_
  refine lv_iload_n X.hx X.hb dX4_doNod_1 rfl (lv_at hl 1 rfl) ?_
  refine lv_iload_n X.hx X.hb dX4_doNod_2 rfl (lv_at hl 2 rfl) ?_
  obtain ⟨sM_1, hc_2, hf⟩ := bd_i hf
  refine r_wvv (As := [.int p1, .int p2]) (rest := []) X sm_X4_120 (c_X4_meet l G N uM uC iM sM iC tC sC p1 p2 hc_2) hP hD hS hA 0 rfl rfl rfl hl.1 (lv_room (Nat.le_of_ble_eq_true rfl)) ⟨Nat.le_of_ble_eq_true rfl, Nat.le_of_ble_eq_true rfl⟩ ⟨Nat.zero_le _, Nat.zero_le _⟩ dX4_doNod_3 (fun H locs hP hD hS => ?_)
  refine lv_aload_n X.hx X.hb dX4_doNod_6 rfl (lv_at hl 0 rfl) ?_
  refine lv_dup X.hx X.hb dX4_doNod_7 rfl ?_
  refine gf_X4_62 X hP 0 rfl (v := .int (iM 2)) rfl dX4_doNod_8 ?_
  refine lv_iconst (v := 1) X.hx X.hb dX4_doNod_11 (by decide) ?_
  refine lv_iload_n X.hx X.hb dX4_doNod_12 rfl (lv_at hl 1 rfl) ?_
  refine lv_ishl X.hx X.hb dX4_doNod_13 ?_
  refine lv_ior X.hx X.hb dX4_doNod_14 ?_
  obtain ⟨n_3, en_3, hf⟩ := nv_i hf
  refine r_nm en_3 ?_
  refine pf_X4_62 X hP hD hS 0 rfl rfl rfl (Nat.le_of_ble_eq_true rfl) (wo := (gM G uM (uC 0) (va_up iM 2 n_3) sM_1 ++ gC G uC iC tC sC)) rfl dX4_doNod_15 (fun H locs hP hD hS => ?_)
  cases hf
  subst hQ
  exact r_vret X hP hD hS dX4_doNod_18

def f_X4_whyNotVeil (N : Nat) (iM : Nat → Int32) (sM : Nat → Nat → Int32) (iC : Nat → Int32) (tC : Nat → Nat → Int64) (sC : Nat → Nat → Int32) (p1 : Int32) : Option (Int32) :=
  bd (f_X10_has N (iM 3) p1) (fun r_1 => (if r_1 = 0 then (if (1 : Int32) ≤ (iM 4) then some 0 else some 2) else some 1))
set_option maxHeartbeats 4000000 in
set_option maxRecDepth 100000 in
theorem c_X4_whyNotVeil (l : Launch) (G : GT) (N : Nat) (uM uC : Nat → Nat) (iM : Nat → Int32) (sM : Nat → Nat → Int32) (iC : Nat → Int32) (tC : Nat → Nat → Int64) (sC : Nat → Nat → Int32) (p1 : Int32) {r : Int32} (hf : f_X4_whyNotVeil N iM sM iC tC sC p1 = some r) : CI l G yX4_whyNotVeil cX4_whyNotVeil 2 .int 2 [.ref (uM 0), .int p1] (gM G uM (uC 0) iM sM ++ gC G uC iC tC sC) r (gM G uM (uC 0) iM sM ++ gC G uC iC tC sC) := by
  refine CI.of (by decide) (Nat.le_of_ble_eq_true rfl) ?_
  intro p e s m args below meth c A X hA hP hD hS ls hl
  have hl : lv_has ls 2 [(0, .ref (uM 0)), (1, .int p1)] := hl
  generalize hQ : MQ below (QI G A r (gM G uM (uC 0) iM sM ++ gC G uC iC tC sC)) args s 0 0 A = QQ
  unfold f_X4_whyNotVeil at hf
  refine lv_aload_n X.hx X.hb dX4_whyNotVeil_0 rfl (lv_at hl 0 rfl) ?_
  refine gf_X4_65 X hP 0 rfl (v := .int (iM 3)) rfl dX4_whyNotVeil_1 ?_
  refine lv_iload_n X.hx X.hb dX4_whyNotVeil_4 rfl (lv_at hl 1 rfl) ?_
  obtain ⟨r_1, hc_2, hf⟩ := bd_i hf
  refine r_cn0 (As := [.int (iM 3), .int p1]) (rest := []) X sm_X4_108 (c_X10_has l G N (iM 3) p1 hc_2) hP hD hS hA rfl hl.1 (lv_room (Nat.le_of_ble_eq_true rfl)) ⟨Nat.le_of_ble_eq_true rfl, Nat.le_of_ble_eq_true rfl⟩ ⟨Nat.zero_le _, Nat.zero_le _⟩ dX4_whyNotVeil_5 (fun H locs hP hD hS => ?_)
  refine lv_if_eq (tgt := 13) X.hx X.hb dX4_whyNotVeil_8 (by decide) (fun hc_3 => ?_) (fun hc_3 => ?_)
  · replace hf := if_t hf hc_3
    refine lv_aload_n X.hx X.hb dX4_whyNotVeil_13 rfl (lv_at hl 0 rfl) ?_
    refine gf_X4_68 X hP 0 rfl (v := .int (iM 4)) rfl dX4_whyNotVeil_14 ?_
    refine lv_iconst (v := 1) X.hx X.hb dX4_whyNotVeil_17 (by decide) ?_
    refine lv_icmp_ge (tgt := 25) X.hx X.hb dX4_whyNotVeil_18 (by decide) (fun hc_4 => ?_) (fun hc_4 => ?_)
    · replace hf := if_t hf hc_4
      refine lv_iconst (v := 0) X.hx X.hb dX4_whyNotVeil_25 (by decide) ?_
      cases hf
      subst hQ
      exact r_iret X hP hD hS dX4_whyNotVeil_26
    · replace hf := if_f hf hc_4
      refine lv_iconst (v := 2) X.hx X.hb dX4_whyNotVeil_21 (by decide) ?_
      refine lv_goto (tgt := 26) X.hx X.hb dX4_whyNotVeil_22 (by decide) ?_
      cases hf
      subst hQ
      exact r_iret X hP hD hS dX4_whyNotVeil_26
  · replace hf := if_f hf hc_3
    refine lv_iconst (v := 1) X.hx X.hb dX4_whyNotVeil_11 (by decide) ?_
    cases hf
    subst hQ
    exact r_iret X hP hD hS dX4_whyNotVeil_12

def f_X4_doVeil (N : Nat) (iM : Nat → Int32) (sM : Nat → Nat → Int32) (iC : Nat → Int32) (tC : Nat → Nat → Int64) (sC : Nat → Nat → Int32) (p1 : Int32) : Option ((Nat → Int32)) :=
  nv ((iM 3) ||| ((1 : Int32) <<< (p1 &&& 31))) (fun n_1 => some (va_up (va_up iM 3 n_1) 4 ((iM 4) - 1)))
set_option maxHeartbeats 4000000 in
set_option maxRecDepth 100000 in
theorem c_X4_doVeil (l : Launch) (G : GT) (N : Nat) (uM uC : Nat → Nat) (iM : Nat → Int32) (sM : Nat → Nat → Int32) (iC : Nat → Int32) (tC : Nat → Nat → Int64) (sC : Nat → Nat → Int32) (p1 : Int32) {iM' : Nat → Int32} (hf : f_X4_doVeil N iM sM iC tC sC p1 = some iM') : CV l G yX4_doVeil cX4_doVeil 2 1 [.ref (uM 0), .int p1] (gM G uM (uC 0) iM sM ++ gC G uC iC tC sC) (gM G uM (uC 0) iM' sM ++ gC G uC iC tC sC) := by
  refine CV.of (by decide) (Nat.le_of_ble_eq_true rfl) ?_
  intro p e s m args below meth c A X hA hP hD hS ls hl
  have hl : lv_has ls 2 [(0, .ref (uM 0)), (1, .int p1)] := hl
  generalize hQ : MQ below (QV G A (gM G uM (uC 0) iM' sM ++ gC G uC iC tC sC)) args s 0 0 A = QQ
  unfold f_X4_doVeil at hf
  refine lv_aload_n X.hx X.hb dX4_doVeil_0 rfl (lv_at hl 0 rfl) ?_
  refine lv_dup X.hx X.hb dX4_doVeil_1 rfl ?_
  refine gf_X4_65 X hP 0 rfl (v := .int (iM 3)) rfl dX4_doVeil_2 ?_
  refine lv_iconst (v := 1) X.hx X.hb dX4_doVeil_5 (by decide) ?_
  refine lv_iload_n X.hx X.hb dX4_doVeil_6 rfl (lv_at hl 1 rfl) ?_
  refine lv_ishl X.hx X.hb dX4_doVeil_7 ?_
  refine lv_ior X.hx X.hb dX4_doVeil_8 ?_
  obtain ⟨n_1, en_1, hf⟩ := nv_i hf
  refine r_nm en_1 ?_
  refine pf_X4_65 X hP hD hS 0 rfl rfl rfl (Nat.le_of_ble_eq_true rfl) (wo := (gM G uM (uC 0) (va_up iM 3 n_1) sM ++ gC G uC iC tC sC)) rfl dX4_doVeil_9 (fun H locs hP hD hS => ?_)
  refine lv_aload_n X.hx X.hb dX4_doVeil_12 rfl (lv_at hl 0 rfl) ?_
  refine lv_dup X.hx X.hb dX4_doVeil_13 rfl ?_
  refine gf_X4_68 X hP 0 rfl (v := .int (iM 4)) rfl dX4_doVeil_14 ?_
  refine lv_iconst (v := 1) X.hx X.hb dX4_doVeil_17 (by decide) ?_
  refine lv_isub X.hx X.hb dX4_doVeil_18 ?_
  refine pf_X4_68 X hP hD hS 0 rfl rfl rfl (Nat.le_of_ble_eq_true rfl) (wo := (gM G uM (uC 0) (va_up (va_up iM 3 n_1) 4 ((iM 4) - 1)) sM ++ gC G uC iC tC sC)) rfl dX4_doVeil_19 (fun H locs hP hD hS => ?_)
  cases hf
  subst hQ
  exact r_vret X hP hD hS dX4_doVeil_22

def f_X4_whyNotTell (N : Nat) (iM : Nat → Int32) (sM : Nat → Nat → Int32) (iC : Nat → Int32) (tC : Nat → Nat → Int64) (sC : Nat → Nat → Int32) (p1 : Int32) (p2 : Int32) (p3 : Int32) : Option (Int32) :=
  (if p1 = p2 then some 1 else (if p1 = p3 then some 1 else (if p2 = p3 then some 1 else bd (f_X4_known N iM sM iC tC sC p1) (fun r_4 => bd (f_X10_has N r_4 p2) (fun r_6 => (if r_6 = 0 then some 2 else bd (f_X4_known N iM sM iC tC sC p1) (fun r_9 => bd (f_X10_has N r_9 p3) (fun r_11 => (if r_11 = 0 then some 2 else bd (f_X4_known N iM sM iC tC sC p2) (fun r_14 => bd (f_X10_has N r_14 p3) (fun r_16 => (if r_16 = 0 then some 0 else some 3))))))))))))
set_option maxHeartbeats 4000000 in
set_option maxRecDepth 100000 in
theorem c_X4_whyNotTell (l : Launch) (G : GT) (N : Nat) (uM uC : Nat → Nat) (iM : Nat → Int32) (sM : Nat → Nat → Int32) (iC : Nat → Int32) (tC : Nat → Nat → Int64) (sC : Nat → Nat → Int32) (p1 : Int32) (p2 : Int32) (p3 : Int32) {r : Int32} (hf : f_X4_whyNotTell N iM sM iC tC sC p1 p2 p3 = some r) : CI l G yX4_whyNotTell cX4_whyNotTell 4 .int 2 [.ref (uM 0), .int p1, .int p2, .int p3] (gM G uM (uC 0) iM sM ++ gC G uC iC tC sC) r (gM G uM (uC 0) iM sM ++ gC G uC iC tC sC) := by
  refine CI.of (by decide) (Nat.le_of_ble_eq_true rfl) ?_
  intro p e s m args below meth c A X hA hP hD hS ls hl
  have hl : lv_has ls 4 [(0, .ref (uM 0)), (1, .int p1), (2, .int p2), (3, .int p3)] := hl
  generalize hQ : MQ below (QI G A r (gM G uM (uC 0) iM sM ++ gC G uC iC tC sC)) args s 0 0 A = QQ
  unfold f_X4_whyNotTell at hf
  refine lv_iload_n X.hx X.hb dX4_whyNotTell_0 rfl (lv_at hl 1 rfl) ?_
  refine lv_iload_n X.hx X.hb dX4_whyNotTell_1 rfl (lv_at hl 2 rfl) ?_
  refine lv_icmp_eq (tgt := 15) X.hx X.hb dX4_whyNotTell_2 (by decide) (fun hc_1 => ?_) (fun hc_1 => ?_)
  · replace hf := if_t hf hc_1
    refine lv_iconst (v := 1) X.hx X.hb dX4_whyNotTell_15 (by decide) ?_
    cases hf
    subst hQ
    exact r_iret X hP hD hS dX4_whyNotTell_16
  · replace hf := if_f hf hc_1
    refine lv_iload_n X.hx X.hb dX4_whyNotTell_5 rfl (lv_at hl 1 rfl) ?_
    refine lv_iload_n X.hx X.hb dX4_whyNotTell_6 rfl (lv_at hl 3 rfl) ?_
    refine lv_icmp_eq (tgt := 15) X.hx X.hb dX4_whyNotTell_7 (by decide) (fun hc_2 => ?_) (fun hc_2 => ?_)
    · replace hf := if_t hf hc_2
      refine lv_iconst (v := 1) X.hx X.hb dX4_whyNotTell_15 (by decide) ?_
      cases hf
      subst hQ
      exact r_iret X hP hD hS dX4_whyNotTell_16
    · replace hf := if_f hf hc_2
      refine lv_iload_n X.hx X.hb dX4_whyNotTell_10 rfl (lv_at hl 2 rfl) ?_
      refine lv_iload_n X.hx X.hb dX4_whyNotTell_11 rfl (lv_at hl 3 rfl) ?_
      refine lv_icmp_ne (tgt := 17) X.hx X.hb dX4_whyNotTell_12 (by decide) (fun hc_3 => ?_) (fun hc_3 => ?_)
      · replace hf := if_f hf hc_3
        refine lv_aload_n X.hx X.hb dX4_whyNotTell_17 rfl (lv_at hl 0 rfl) ?_
        refine lv_iload_n X.hx X.hb dX4_whyNotTell_18 rfl (lv_at hl 1 rfl) ?_
        obtain ⟨r_4, hc_5, hf⟩ := bd_i hf
        refine r_wvi (As := [.int p1]) (rest := []) X sm_X4_79 (c_X4_known l G N uM uC iM sM iC tC sC p1 hc_5) hP hD hS hA 0 rfl rfl rfl hl.1 (lv_room (Nat.le_of_ble_eq_true rfl)) ⟨Nat.le_of_ble_eq_true rfl, Nat.le_of_ble_eq_true rfl⟩ ⟨Nat.zero_le _, Nat.zero_le _⟩ dX4_whyNotTell_19 (fun H locs hP hD hS => ?_)
        refine lv_iload_n X.hx X.hb dX4_whyNotTell_22 rfl (lv_at hl 2 rfl) ?_
        obtain ⟨r_6, hc_7, hf⟩ := bd_i hf
        refine r_cn0 (As := [.int r_4, .int p2]) (rest := []) X sm_X4_108 (c_X10_has l G N r_4 p2 hc_7) hP hD hS hA rfl hl.1 (lv_room (Nat.le_of_ble_eq_true rfl)) ⟨Nat.le_of_ble_eq_true rfl, Nat.le_of_ble_eq_true rfl⟩ ⟨Nat.zero_le _, Nat.zero_le _⟩ dX4_whyNotTell_23 (fun H locs hP hD hS => ?_)
        refine lv_if_eq (tgt := 41) X.hx X.hb dX4_whyNotTell_26 (by decide) (fun hc_8 => ?_) (fun hc_8 => ?_)
        · replace hf := if_t hf hc_8
          refine lv_iconst (v := 2) X.hx X.hb dX4_whyNotTell_41 (by decide) ?_
          cases hf
          subst hQ
          exact r_iret X hP hD hS dX4_whyNotTell_42
        · replace hf := if_f hf hc_8
          refine lv_aload_n X.hx X.hb dX4_whyNotTell_29 rfl (lv_at hl 0 rfl) ?_
          refine lv_iload_n X.hx X.hb dX4_whyNotTell_30 rfl (lv_at hl 1 rfl) ?_
          obtain ⟨r_9, hc_10, hf⟩ := bd_i hf
          refine r_wvi (As := [.int p1]) (rest := []) X sm_X4_79 (c_X4_known l G N uM uC iM sM iC tC sC p1 hc_10) hP hD hS hA 0 rfl rfl rfl hl.1 (lv_room (Nat.le_of_ble_eq_true rfl)) ⟨Nat.le_of_ble_eq_true rfl, Nat.le_of_ble_eq_true rfl⟩ ⟨Nat.zero_le _, Nat.zero_le _⟩ dX4_whyNotTell_31 (fun H locs hP hD hS => ?_)
          refine lv_iload_n X.hx X.hb dX4_whyNotTell_34 rfl (lv_at hl 3 rfl) ?_
          obtain ⟨r_11, hc_12, hf⟩ := bd_i hf
          refine r_cn0 (As := [.int r_9, .int p3]) (rest := []) X sm_X4_108 (c_X10_has l G N r_9 p3 hc_12) hP hD hS hA rfl hl.1 (lv_room (Nat.le_of_ble_eq_true rfl)) ⟨Nat.le_of_ble_eq_true rfl, Nat.le_of_ble_eq_true rfl⟩ ⟨Nat.zero_le _, Nat.zero_le _⟩ dX4_whyNotTell_35 (fun H locs hP hD hS => ?_)
          refine lv_if_ne (tgt := 43) X.hx X.hb dX4_whyNotTell_38 (by decide) (fun hc_13 => ?_) (fun hc_13 => ?_)
          · replace hf := if_f hf hc_13
            refine lv_aload_n X.hx X.hb dX4_whyNotTell_43 rfl (lv_at hl 0 rfl) ?_
            refine lv_iload_n X.hx X.hb dX4_whyNotTell_44 rfl (lv_at hl 2 rfl) ?_
            obtain ⟨r_14, hc_15, hf⟩ := bd_i hf
            refine r_wvi (As := [.int p2]) (rest := []) X sm_X4_79 (c_X4_known l G N uM uC iM sM iC tC sC p2 hc_15) hP hD hS hA 0 rfl rfl rfl hl.1 (lv_room (Nat.le_of_ble_eq_true rfl)) ⟨Nat.le_of_ble_eq_true rfl, Nat.le_of_ble_eq_true rfl⟩ ⟨Nat.zero_le _, Nat.zero_le _⟩ dX4_whyNotTell_45 (fun H locs hP hD hS => ?_)
            refine lv_iload_n X.hx X.hb dX4_whyNotTell_48 rfl (lv_at hl 3 rfl) ?_
            obtain ⟨r_16, hc_17, hf⟩ := bd_i hf
            refine r_cn0 (As := [.int r_14, .int p3]) (rest := []) X sm_X4_108 (c_X10_has l G N r_14 p3 hc_17) hP hD hS hA rfl hl.1 (lv_room (Nat.le_of_ble_eq_true rfl)) ⟨Nat.le_of_ble_eq_true rfl, Nat.le_of_ble_eq_true rfl⟩ ⟨Nat.zero_le _, Nat.zero_le _⟩ dX4_whyNotTell_49 (fun H locs hP hD hS => ?_)
            refine lv_if_eq (tgt := 59) X.hx X.hb dX4_whyNotTell_52 (by decide) (fun hc_18 => ?_) (fun hc_18 => ?_)
            · replace hf := if_t hf hc_18
              refine lv_iconst (v := 0) X.hx X.hb dX4_whyNotTell_59 (by decide) ?_
              cases hf
              subst hQ
              exact r_iret X hP hD hS dX4_whyNotTell_60
            · replace hf := if_f hf hc_18
              refine lv_iconst (v := 3) X.hx X.hb dX4_whyNotTell_55 (by decide) ?_
              refine lv_goto (tgt := 60) X.hx X.hb dX4_whyNotTell_56 (by decide) ?_
              cases hf
              subst hQ
              exact r_iret X hP hD hS dX4_whyNotTell_60
          · replace hf := if_t hf hc_13
            refine lv_iconst (v := 2) X.hx X.hb dX4_whyNotTell_41 (by decide) ?_
            cases hf
            subst hQ
            exact r_iret X hP hD hS dX4_whyNotTell_42
      · replace hf := if_t hf hc_3
        refine lv_iconst (v := 1) X.hx X.hb dX4_whyNotTell_15 (by decide) ?_
        cases hf
        subst hQ
        exact r_iret X hP hD hS dX4_whyNotTell_16

def f_X4_passDay_2 (N : Nat) (iM : Nat → Int32) (iC : Nat → Int32) (tC : Nat → Nat → Int64) (sC : Nat → Nat → Int32) (K_1 : ((Nat → Nat → Int32)) → Option ((Nat → Int32) × (Nat → Nat → Int32))) : Nat → (Nat → Nat → Int32) → (Int32) → Option ((Nat → Int32) × (Nat → Nat → Int32))
  | 0, _, _ => none
  | k + 1, sM, v1 => (if (iC 0) ≤ v1 then K_1 sM else ck v1 7 (bd (f_X4_wanting N iM sM iC tC sC v1) (fun r_24 => ck v1 7 (nv (upd (sM 7) (ix v1) (if (((sM 7) (ix v1)) + r_24) < 9999 then (((sM 7) (ix v1)) + r_24) else 9999)) (fun g_27 => f_X4_passDay_2 N iM iC tC sC K_1 k (va_up sM 7 g_27) (v1 + 1))))))
def f_X4_passDay (N : Nat) (iM : Nat → Int32) (sM : Nat → Nat → Int32) (iC : Nat → Int32) (tC : Nat → Nat → Int64) (sC : Nat → Nat → Int32) : Option ((Nat → Int32) × (Nat → Nat → Int32)) :=
  jn (fun (z : (Nat → Nat → Int32)) => match z with | sM_4 => bd (f_X4_dawn N iM sM_4 iC tC sC) (fun (iM_5, sM_6) => (if (iC 11) ≤ 0 then some ((va_up iM_5 1 ((iM_5 1) + 1)), sM_6) else nz (iC 11) ((if (((iM_5 1) + 1) - ((iM_5 1) + 1) / (iC 11) * (iC 11)) = 0 then bd (f_X4_forget N (va_up iM_5 1 ((iM_5 1) + 1)) sM_6 iC tC sC) (fun sM_11 => some ((va_up iM_5 1 ((iM_5 1) + 1)), sM_11)) else some ((va_up iM_5 1 ((iM_5 1) + 1)), sM_6)))))) (fun K_1 => f_X4_passDay_2 N iM iC tC sC K_1 N sM 0)
set_option maxHeartbeats 4000000 in
set_option maxRecDepth 100000 in
theorem c_X4_passDay (l : Launch) (G : GT) (N : Nat) (uM uC : Nat → Nat) (iM : Nat → Int32) (sM : Nat → Nat → Int32) (iC : Nat → Int32) (tC : Nat → Nat → Int64) (sC : Nat → Nat → Int32) {iM' : Nat → Int32} {sM' : Nat → Nat → Int32} (hf : f_X4_passDay N iM sM iC tC sC = some (iM', sM')) : CV l G yX4_passDay cX4_passDay 2 3 [.ref (uM 0)] (gM G uM (uC 0) iM sM ++ gC G uC iC tC sC) (gM G uM (uC 0) iM' sM' ++ gC G uC iC tC sC) := by
  refine CV.of (by decide) (Nat.le_of_ble_eq_true rfl) ?_
  intro p e s m args below meth c A X hA hP hD hS ls hl
  have hl : lv_has ls 2 [(0, .ref (uM 0))] := hl
  generalize hQ : MQ below (QV G A (gM G uM (uC 0) iM' sM' ++ gC G uC iC tC sC)) args s 0 0 A = QQ
  unfold f_X4_passDay at hf
  refine lv_iconst (v := 0) X.hx X.hb dX4_passDay_0 (by decide) ?_
  refine lv_istore_n (lv' := [(1, .int 0), (0, .ref (uM 0))]) X.hx X.hb dX4_passDay_1 rfl hl (by decide) rfl (fun ls hl => ?_)
  obtain ⟨K_1, eK_3, hf⟩ := jn_i hf
  have hj_2 : ∀ (sM_4 : Nat → Nat → Int32) (H : Heap) (locs : List Loc) (ls : Array Slot), K_1 sM_4 = some (iM', sM') → va_P G.1 vwCl (gM G uM (uC 0) iM sM_4 ++ gC G uC iC tC sC) H → va_D A (gM G uM (uC 0) iM sM_4 ++ gC G uC iC tC sC) → va_S A s.heap H locs → lv_has ls 2 [(0, .ref (uM 0))] → W p l e (RM 3) s m args below meth c H locs 0 0 QQ (F0 m 43 ls []) := by
    intro sM_4 H locs ls hf hP hD hS hl
    rw [eK_3] at hf
    try dsimp only at hf
    refine lv_aload_n X.hx X.hb dX4_passDay_43 rfl (lv_at hl 0 rfl) ?_
    obtain ⟨⟨iM_5, sM_6⟩, hc_7, hf⟩ := bd_i hf
    refine r_wvv (As := []) (rest := []) X sm_X4_59 (c_X4_dawn l G N uM uC iM sM_4 iC tC sC hc_7) hP hD hS hA 0 rfl rfl rfl hl.1 (lv_room (Nat.le_of_ble_eq_true rfl)) ⟨Nat.le_of_ble_eq_true rfl, Nat.le_of_ble_eq_true rfl⟩ ⟨Nat.zero_le _, Nat.zero_le _⟩ dX4_passDay_44 (fun H locs hP hD hS => ?_)
    refine lv_aload_n X.hx X.hb dX4_passDay_47 rfl (lv_at hl 0 rfl) ?_
    refine lv_dup X.hx X.hb dX4_passDay_48 rfl ?_
    refine gf_X4_34 X hP 0 rfl (v := .int (iM_5 1)) rfl dX4_passDay_49 ?_
    refine lv_iconst (v := 1) X.hx X.hb dX4_passDay_52 (by decide) ?_
    refine lv_iadd X.hx X.hb dX4_passDay_53 ?_
    refine pf_X4_34 X hP hD hS 0 rfl rfl rfl (Nat.le_of_ble_eq_true rfl) (wo := (gM G uM (uC 0) (va_up iM_5 1 ((iM_5 1) + 1)) sM_6 ++ gC G uC iC tC sC)) rfl dX4_passDay_54 (fun H locs hP hD hS => ?_)
    refine lv_aload_n X.hx X.hb dX4_passDay_57 rfl (lv_at hl 0 rfl) ?_
    refine gf_X4_30 X hP 0 rfl (v := .ref (uC 0)) rfl dX4_passDay_58 ?_
    refine gf_X4_129 X hP 7 rfl (v := .int (iC 11)) rfl dX4_passDay_61 ?_
    refine lv_if_le (tgt := 86) X.hx X.hb dX4_passDay_64 (by decide) (fun hc_8 => ?_) (fun hc_8 => ?_)
    · replace hf := if_t hf hc_8
      cases hf
      subst hQ
      exact r_vret X hP hD hS dX4_passDay_86
    · replace hf := if_f hf hc_8
      refine lv_aload_n X.hx X.hb dX4_passDay_67 rfl (lv_at hl 0 rfl) ?_
      refine gf_X4_34 X hP 0 rfl (v := .int ((iM_5 1) + 1)) rfl dX4_passDay_68 ?_
      refine lv_aload_n X.hx X.hb dX4_passDay_71 rfl (lv_at hl 0 rfl) ?_
      refine gf_X4_30 X hP 0 rfl (v := .ref (uC 0)) rfl dX4_passDay_72 ?_
      refine gf_X4_129 X hP 7 rfl (v := .int (iC 11)) rfl dX4_passDay_75 ?_
      obtain ⟨hz_9, hf⟩ := nz_i hf
      refine lv_irem X.hx X.hb dX4_passDay_78 hz_9 ?_
      refine lv_if_ne (tgt := 86) X.hx X.hb dX4_passDay_79 (by decide) (fun hc_10 => ?_) (fun hc_10 => ?_)
      · replace hf := if_f hf hc_10
        cases hf
        subst hQ
        exact r_vret X hP hD hS dX4_passDay_86
      · replace hf := if_t hf hc_10
        refine lv_aload_n X.hx X.hb dX4_passDay_82 rfl (lv_at hl 0 rfl) ?_
        obtain ⟨sM_11, hc_12, hf⟩ := bd_i hf
        refine r_wvv (As := []) (rest := []) X sm_X4_56 (c_X4_forget l G N uM uC (va_up iM_5 1 ((iM_5 1) + 1)) sM_6 iC tC sC hc_12) hP hD hS hA 0 rfl rfl rfl hl.1 (lv_room (Nat.le_of_ble_eq_true rfl)) ⟨Nat.le_of_ble_eq_true rfl, Nat.le_of_ble_eq_true rfl⟩ ⟨Nat.zero_le _, Nat.zero_le _⟩ dX4_passDay_83 (fun H locs hP hD hS => ?_)
        cases hf
        subst hQ
        exact r_vret X hP hD hS dX4_passDay_86
  have hlo_13 : ∀ (k : Nat) (sM_14 : Nat → Nat → Int32) (v1_15 : Int32) (H : Heap) (locs : List Loc) (ls : Array Slot), f_X4_passDay_2 N iM iC tC sC K_1 k sM_14 v1_15 = some (iM', sM') → va_P G.1 vwCl (gM G uM (uC 0) iM sM_14 ++ gC G uC iC tC sC) H → va_D A (gM G uM (uC 0) iM sM_14 ++ gC G uC iC tC sC) → va_S A s.heap H locs → lv_has ls 2 [(0, .ref (uM 0)), (1, .int v1_15)] → W p l e (RM 3) s m args below meth c H locs 0 0 QQ (F0 m 2 ls []) := by
    intro k
    induction k with
    | zero => intro sM_14 v1_15 H locs ls hf; exact absurd hf (by intro q; cases q)
    | succ k ih =>
      intro sM_14 v1_15 H locs ls hf hP hD hS hl
      unfold f_X4_passDay_2 at hf
      refine lv_iload_n X.hx X.hb dX4_passDay_2 rfl (lv_at hl 1 rfl) ?_
      refine lv_aload_n X.hx X.hb dX4_passDay_3 rfl (lv_at hl 0 rfl) ?_
      refine gf_X4_30 X hP 0 rfl (v := .ref (uC 0)) rfl dX4_passDay_4 ?_
      refine gf_X4_97 X hP 7 rfl (v := .int (iC 0)) rfl dX4_passDay_7 ?_
      refine lv_icmp_ge (tgt := 43) X.hx X.hb dX4_passDay_10 (by decide) (fun hc_16 => ?_) (fun hc_16 => ?_)
      · replace hf := if_t hf hc_16
        exact hj_2 _ _ _ _ hf hP hD hS (lv_sub hl [0] rfl)
      · replace hf := if_f hf hc_16
        refine lv_aload_n X.hx X.hb dX4_passDay_13 rfl (lv_at hl 0 rfl) ?_
        refine gf_X4_15 X hP 0 rfl (v := .ref (uM 8)) rfl dX4_passDay_14 ?_
        refine lv_iload_n X.hx X.hb dX4_passDay_17 rfl (lv_at hl 1 rfl) ?_
        refine lv_sipush (v := 9999) X.hx X.hb dX4_passDay_18 (by decide) ?_
        refine lv_aload_n X.hx X.hb dX4_passDay_21 rfl (lv_at hl 0 rfl) ?_
        refine gf_X4_15 X hP 0 rfl (v := .ref (uM 8)) rfl dX4_passDay_22 ?_
        refine lv_iload_n X.hx X.hb dX4_passDay_25 rfl (lv_at hl 1 rfl) ?_
        obtain ⟨hi_17, hf⟩ := ck_i hf
        refine r_iald X hP 2 (f := (sM_14 7)) rfl hi_17 dX4_passDay_26 ?_
        refine lv_aload_n X.hx X.hb dX4_passDay_27 rfl (lv_at hl 0 rfl) ?_
        refine lv_iload_n X.hx X.hb dX4_passDay_28 rfl (lv_at hl 1 rfl) ?_
        obtain ⟨r_18, hc_19, hf⟩ := bd_i hf
        refine r_wvi (As := [.int v1_15]) (rest := [.int ((sM_14 7) (ix v1_15)), .int 9999, .int v1_15, .ref (uM 8)]) X sm_X4_100 (c_X4_wanting l G N uM uC iM sM_14 iC tC sC v1_15 hc_19) hP hD hS hA 0 rfl rfl rfl hl.1 (lv_room (Nat.le_of_ble_eq_true rfl)) ⟨Nat.le_of_ble_eq_true rfl, Nat.le_of_ble_eq_true rfl⟩ ⟨Nat.zero_le _, Nat.zero_le _⟩ dX4_passDay_29 (fun H locs hP hD hS => ?_)
        refine lv_iadd X.hx X.hb dX4_passDay_32 ?_
        refine r_mmin X tw_856 hl.1 (Nat.le_of_ble_eq_true rfl) (Nat.le_of_ble_eq_true rfl) (Nat.zero_le _) (Nat.zero_le _) dX4_passDay_33 ?_
        obtain ⟨hi_20, hf⟩ := ck_i hf
        obtain ⟨g_21, eg_21, hf⟩ := nv_i hf
        refine r_iast X hP hD hS 2 (f := (sM_14 7)) rfl hi_20 (wo := (gM G uM (uC 0) iM (va_up sM_14 7 g_21) ++ gC G uC iC tC sC)) (by subst eg_21; rfl) dX4_passDay_36 (fun H locs hP hD hS => ?_)
        refine lv_iinc (v := (v1_15 + 1)) (lv' := [(1, .int (v1_15 + 1)), (0, .ref (uM 0))]) X.hx X.hb dX4_passDay_37 hl (k := 1) rfl rfl (by decide) rfl (fun ls hl => ?_)
        refine lv_goto (tgt := 2) X.hx X.hb dX4_passDay_40 (by decide) ?_
        exact ih _ _ _ _ _ hf hP hD hS (lv_sub hl [1, 0] rfl)
  exact hlo_13 N _ _ _ _ _ hf hP hD hS (lv_sub hl [1, 0] rfl)

def f_X4_passDays_2 (N : Nat) (iC : Nat → Int32) (tC : Nat → Nat → Int64) (sC : Nat → Nat → Int32) (v1 : Int32) : Nat → (Nat → Int32) → (Nat → Nat → Int32) → (Int32) → Option (Int32 × (Nat → Int32) × (Nat → Nat → Int32))
  | 0, _, _, _ => none
  | k + 1, iM, sM, v2 => (if v1 ≤ v2 then some (v2, iM, sM) else (if (400 : Int32) ≤ (iM 1) then some (v2, iM, sM) else bd (f_X4_passDay N iM sM iC tC sC) (fun (iM_12, sM_13) => f_X4_passDays_2 N iC tC sC v1 k iM_12 sM_13 (v2 + 1))))
def f_X4_passDays (N : Nat) (iM : Nat → Int32) (sM : Nat → Nat → Int32) (iC : Nat → Int32) (tC : Nat → Nat → Int64) (sC : Nat → Nat → Int32) (p1 : Int32) : Option (Int32 × (Nat → Int32) × (Nat → Nat → Int32)) :=
  f_X4_passDays_2 N iC tC sC p1 N iM sM 0
set_option maxHeartbeats 4000000 in
set_option maxRecDepth 100000 in
theorem c_X4_passDays (l : Launch) (G : GT) (N : Nat) (uM uC : Nat → Nat) (iM : Nat → Int32) (sM : Nat → Nat → Int32) (iC : Nat → Int32) (tC : Nat → Nat → Int64) (sC : Nat → Nat → Int32) (p1 : Int32) {r : Int32} {iM' : Nat → Int32} {sM' : Nat → Nat → Int32} (hf : f_X4_passDays N iM sM iC tC sC p1 = some (r, iM', sM')) : CI l G yX4_passDays cX4_passDays 3 .int 4 [.ref (uM 0), .int p1] (gM G uM (uC 0) iM sM ++ gC G uC iC tC sC) r (gM G uM (uC 0) iM' sM' ++ gC G uC iC tC sC) := by
  refine CI.of (by decide) (Nat.le_of_ble_eq_true rfl) ?_
  intro p e s m args below meth c A X hA hP hD hS ls hl
  have hl : lv_has ls 3 [(0, .ref (uM 0)), (1, .int p1)] := hl
  generalize hQ : MQ below (QI G A r (gM G uM (uC 0) iM' sM' ++ gC G uC iC tC sC)) args s 0 0 A = QQ
  unfold f_X4_passDays at hf
  refine lv_iconst (v := 0) X.hx X.hb dX4_passDays_0 (by decide) ?_
  refine lv_istore_n (lv' := [(2, .int 0), (0, .ref (uM 0)), (1, .int p1)]) X.hx X.hb dX4_passDays_1 rfl hl (by decide) rfl (fun ls hl => ?_)
  have hlo_1 : ∀ (k : Nat) (iM_2 : Nat → Int32) (sM_3 : Nat → Nat → Int32) (v2_4 : Int32) (H : Heap) (locs : List Loc) (ls : Array Slot), f_X4_passDays_2 N iC tC sC p1 k iM_2 sM_3 v2_4 = some (r, iM', sM') → va_P G.1 vwCl (gM G uM (uC 0) iM_2 sM_3 ++ gC G uC iC tC sC) H → va_D A (gM G uM (uC 0) iM_2 sM_3 ++ gC G uC iC tC sC) → va_S A s.heap H locs → lv_has ls 3 [(0, .ref (uM 0)), (1, .int p1), (2, .int v2_4)] → W p l e (RM 4) s m args below meth c H locs 0 0 QQ (F0 m 2 ls []) := by
    intro k
    induction k with
    | zero => intro iM_2 sM_3 v2_4 H locs ls hf; exact absurd hf (by intro q; cases q)
    | succ k ih =>
      intro iM_2 sM_3 v2_4 H locs ls hf hP hD hS hl
      unfold f_X4_passDays_2 at hf
      refine lv_iload_n X.hx X.hb dX4_passDays_2 rfl (lv_at hl 2 rfl) ?_
      refine lv_iload_n X.hx X.hb dX4_passDays_3 rfl (lv_at hl 1 rfl) ?_
      refine lv_icmp_ge (tgt := 27) X.hx X.hb dX4_passDays_4 (by decide) (fun hc_5 => ?_) (fun hc_5 => ?_)
      · replace hf := if_t hf hc_5
        refine lv_iload_n X.hx X.hb dX4_passDays_27 rfl (lv_at hl 2 rfl) ?_
        cases hf
        subst hQ
        exact r_iret X hP hD hS dX4_passDays_28
      · replace hf := if_f hf hc_5
        refine lv_aload_n X.hx X.hb dX4_passDays_7 rfl (lv_at hl 0 rfl) ?_
        refine gf_X4_34 X hP 0 rfl (v := .int (iM_2 1)) rfl dX4_passDays_8 ?_
        refine lv_sipush (v := 400) X.hx X.hb dX4_passDays_11 (by decide) ?_
        refine lv_icmp_ge (tgt := 27) X.hx X.hb dX4_passDays_14 (by decide) (fun hc_6 => ?_) (fun hc_6 => ?_)
        · replace hf := if_t hf hc_6
          refine lv_iload_n X.hx X.hb dX4_passDays_27 rfl (lv_at hl 2 rfl) ?_
          cases hf
          subst hQ
          exact r_iret X hP hD hS dX4_passDays_28
        · replace hf := if_f hf hc_6
          refine lv_aload_n X.hx X.hb dX4_passDays_17 rfl (lv_at hl 0 rfl) ?_
          obtain ⟨⟨iM_7, sM_8⟩, hc_9, hf⟩ := bd_i hf
          refine r_wvv (As := []) (rest := []) X sm_X4_132 (c_X4_passDay l G N uM uC iM_2 sM_3 iC tC sC hc_9) hP hD hS hA 0 rfl rfl rfl hl.1 (lv_room (Nat.le_of_ble_eq_true rfl)) ⟨Nat.le_of_ble_eq_true rfl, Nat.le_of_ble_eq_true rfl⟩ ⟨Nat.zero_le _, Nat.zero_le _⟩ dX4_passDays_18 (fun H locs hP hD hS => ?_)
          refine lv_iinc (v := (v2_4 + 1)) (lv' := [(2, .int (v2_4 + 1)), (0, .ref (uM 0)), (1, .int p1)]) X.hx X.hb dX4_passDays_21 hl (k := 2) rfl rfl (by decide) rfl (fun ls hl => ?_)
          refine lv_goto (tgt := 2) X.hx X.hb dX4_passDays_24 (by decide) ?_
          exact ih _ _ _ _ _ _ hf hP hD hS (lv_sub hl [1, 2, 0] rfl)
  exact hlo_1 N _ _ _ _ _ _ hf hP hD hS (lv_sub hl [1, 2, 0] rfl)

def f_X4_draw (N : Nat) (iM : Nat → Int32) (sM : Nat → Nat → Int32) (iC : Nat → Int32) (tC : Nat → Nat → Int64) (sC : Nat → Nat → Int32) (p1 : Int32) : Option (Int32 × (Nat → Int32)) :=
  nv (((iM 12) * 1103515245) + 12345) (fun n_1 => (if p1 ≤ 0 then some (0, (va_up iM 12 n_1)) else nz p1 (some (((us n_1 8) - (us n_1 8) / p1 * p1), (va_up iM 12 n_1)))))
set_option maxHeartbeats 4000000 in
set_option maxRecDepth 100000 in
theorem c_X4_draw (l : Launch) (G : GT) (N : Nat) (uM uC : Nat → Nat) (iM : Nat → Int32) (sM : Nat → Nat → Int32) (iC : Nat → Int32) (tC : Nat → Nat → Int64) (sC : Nat → Nat → Int32) (p1 : Int32) {r : Int32} {iM' : Nat → Int32} (hf : f_X4_draw N iM sM iC tC sC p1 = some (r, iM')) : CI l G yX4_draw cX4_draw 2 .int 1 [.ref (uM 0), .int p1] (gM G uM (uC 0) iM sM ++ gC G uC iC tC sC) r (gM G uM (uC 0) iM' sM ++ gC G uC iC tC sC) := by
  refine CI.of (by decide) (Nat.le_of_ble_eq_true rfl) ?_
  intro p e s m args below meth c A X hA hP hD hS ls hl
  have hl : lv_has ls 2 [(0, .ref (uM 0)), (1, .int p1)] := hl
  generalize hQ : MQ below (QI G A r (gM G uM (uC 0) iM' sM ++ gC G uC iC tC sC)) args s 0 0 A = QQ
  unfold f_X4_draw at hf
  refine lv_aload_n X.hx X.hb dX4_draw_0 rfl (lv_at hl 0 rfl) ?_
  refine lv_aload_n X.hx X.hb dX4_draw_1 rfl (lv_at hl 0 rfl) ?_
  refine gf_X4_135 X hP 0 rfl (v := .int (iM 12)) rfl dX4_draw_2 ?_
  refine lv_ldc (v := 1103515245) X.hx X.hb X.hown (X.hts _ tw_1034) dX4_draw_5 ?_
  refine lv_imul X.hx X.hb dX4_draw_7 ?_
  refine lv_sipush (v := 12345) X.hx X.hb dX4_draw_8 (by decide) ?_
  refine lv_iadd X.hx X.hb dX4_draw_11 ?_
  obtain ⟨n_1, en_1, hf⟩ := nv_i hf
  refine r_nm en_1 ?_
  refine pf_X4_135 X hP hD hS 0 rfl rfl rfl (Nat.le_of_ble_eq_true rfl) (wo := (gM G uM (uC 0) (va_up iM 12 n_1) sM ++ gC G uC iC tC sC)) rfl dX4_draw_12 (fun H locs hP hD hS => ?_)
  refine lv_iload_n X.hx X.hb dX4_draw_15 rfl (lv_at hl 1 rfl) ?_
  refine lv_if_le (tgt := 31) X.hx X.hb dX4_draw_16 (by decide) (fun hc_2 => ?_) (fun hc_2 => ?_)
  · replace hf := if_t hf hc_2
    refine lv_iconst (v := 0) X.hx X.hb dX4_draw_31 (by decide) ?_
    cases hf
    subst hQ
    exact r_iret X hP hD hS dX4_draw_32
  · replace hf := if_f hf hc_2
    refine lv_aload_n X.hx X.hb dX4_draw_19 rfl (lv_at hl 0 rfl) ?_
    refine gf_X4_135 X hP 0 rfl (v := .int n_1) rfl dX4_draw_20 ?_
    refine lv_bipush (v := 8) X.hx X.hb dX4_draw_23 (by decide) ?_
    refine lv_iushr (v := (us n_1 8)) X.hx X.hb dX4_draw_25 rfl ?_
    refine lv_iload_n X.hx X.hb dX4_draw_26 rfl (lv_at hl 1 rfl) ?_
    obtain ⟨hz_3, hf⟩ := nz_i hf
    refine lv_irem X.hx X.hb dX4_draw_27 hz_3 ?_
    refine lv_goto (tgt := 32) X.hx X.hb dX4_draw_28 (by decide) ?_
    cases hf
    subst hQ
    exact r_iret X hP hD hS dX4_draw_32

def f_X4_drawBuy (N : Nat) (iM : Nat → Int32) (sM : Nat → Nat → Int32) (iC : Nat → Int32) (tC : Nat → Nat → Int64) (sC : Nat → Nat → Int32) (p1 : Int32) : Option ((Nat → Int32) × (Nat → Nat → Int32)) :=
  (if (1 : Int32) ≤ (iC 1) then bd (f_X4_draw N iM sM iC tC sC (iC 1)) (fun (r_2, iM_3) => bd (f_X4_draw N iM_3 sM iC tC sC (iC 0)) (fun (r_5, iM_6) => bd (f_X4_whyNotBuy N iM_6 sM iC tC sC p1 r_2 r_5) (fun r_8 => (if r_8 = 0 then bd (f_X4_doBuy N iM_6 sM iC tC sC p1 r_2 r_5) (fun (iM_11, sM_12) => some (iM_11, sM_12)) else some (iM_6, sM))))) else some (iM, sM))
set_option maxHeartbeats 4000000 in
set_option maxRecDepth 100000 in
theorem c_X4_drawBuy (l : Launch) (G : GT) (N : Nat) (uM uC : Nat → Nat) (iM : Nat → Int32) (sM : Nat → Nat → Int32) (iC : Nat → Int32) (tC : Nat → Nat → Int64) (sC : Nat → Nat → Int32) (p1 : Int32) {iM' : Nat → Int32} {sM' : Nat → Nat → Int32} (hf : f_X4_drawBuy N iM sM iC tC sC p1 = some (iM', sM')) : CV l G yX4_drawBuy cX4_drawBuy 4 4 [.ref (uM 0), .int p1] (gM G uM (uC 0) iM sM ++ gC G uC iC tC sC) (gM G uM (uC 0) iM' sM' ++ gC G uC iC tC sC) := by
  refine CV.of (by decide) (Nat.le_of_ble_eq_true rfl) ?_
  intro p e s m args below meth c A X hA hP hD hS ls hl
  have hl : lv_has ls 4 [(0, .ref (uM 0)), (1, .int p1)] := hl
  generalize hQ : MQ below (QV G A (gM G uM (uC 0) iM' sM' ++ gC G uC iC tC sC)) args s 0 0 A = QQ
  unfold f_X4_drawBuy at hf
  refine lv_aload_n X.hx X.hb dX4_drawBuy_0 rfl (lv_at hl 0 rfl) ?_
  refine gf_X4_30 X hP 0 rfl (v := .ref (uC 0)) rfl dX4_drawBuy_1 ?_
  refine gf_X4_160 X hP 7 rfl (v := .int (iC 1)) rfl dX4_drawBuy_4 ?_
  refine lv_iconst (v := 1) X.hx X.hb dX4_drawBuy_7 (by decide) ?_
  refine lv_icmp_ge (tgt := 12) X.hx X.hb dX4_drawBuy_8 (by decide) (fun hc_1 => ?_) (fun hc_1 => ?_)
  · replace hf := if_t hf hc_1
    refine lv_aload_n X.hx X.hb dX4_drawBuy_12 rfl (lv_at hl 0 rfl) ?_
    refine lv_aload_n X.hx X.hb dX4_drawBuy_13 rfl (lv_at hl 0 rfl) ?_
    refine gf_X4_30 X hP 0 rfl (v := .ref (uC 0)) rfl dX4_drawBuy_14 ?_
    refine gf_X4_160 X hP 7 rfl (v := .int (iC 1)) rfl dX4_drawBuy_17 ?_
    obtain ⟨⟨r_2, iM_3⟩, hc_4, hf⟩ := bd_i hf
    refine r_wvi (As := [.int (iC 1)]) (rest := []) X sm_X4_142 (c_X4_draw l G N uM uC iM sM iC tC sC (iC 1) hc_4) hP hD hS hA 0 rfl rfl rfl hl.1 (lv_room (Nat.le_of_ble_eq_true rfl)) ⟨Nat.le_of_ble_eq_true rfl, Nat.le_of_ble_eq_true rfl⟩ ⟨Nat.zero_le _, Nat.zero_le _⟩ dX4_drawBuy_20 (fun H locs hP hD hS => ?_)
    refine lv_istore_n (lv' := [(2, .int r_2), (0, .ref (uM 0)), (1, .int p1)]) X.hx X.hb dX4_drawBuy_23 rfl hl (by decide) rfl (fun ls hl => ?_)
    refine lv_aload_n X.hx X.hb dX4_drawBuy_24 rfl (lv_at hl 1 rfl) ?_
    refine lv_aload_n X.hx X.hb dX4_drawBuy_25 rfl (lv_at hl 1 rfl) ?_
    refine gf_X4_30 X hP 0 rfl (v := .ref (uC 0)) rfl dX4_drawBuy_26 ?_
    refine gf_X4_97 X hP 7 rfl (v := .int (iC 0)) rfl dX4_drawBuy_29 ?_
    obtain ⟨⟨r_5, iM_6⟩, hc_7, hf⟩ := bd_i hf
    refine r_wvi (As := [.int (iC 0)]) (rest := []) X sm_X4_142 (c_X4_draw l G N uM uC iM_3 sM iC tC sC (iC 0) hc_7) hP hD hS hA 0 rfl rfl rfl hl.1 (lv_room (Nat.le_of_ble_eq_true rfl)) ⟨Nat.le_of_ble_eq_true rfl, Nat.le_of_ble_eq_true rfl⟩ ⟨Nat.zero_le _, Nat.zero_le _⟩ dX4_drawBuy_32 (fun H locs hP hD hS => ?_)
    refine lv_istore_n (lv' := [(3, .int r_5), (2, .int r_2), (0, .ref (uM 0)), (1, .int p1)]) X.hx X.hb dX4_drawBuy_35 rfl hl (by decide) rfl (fun ls hl => ?_)
    refine lv_aload_n X.hx X.hb dX4_drawBuy_36 rfl (lv_at hl 2 rfl) ?_
    refine lv_iload_n X.hx X.hb dX4_drawBuy_37 rfl (lv_at hl 3 rfl) ?_
    refine lv_iload_n X.hx X.hb dX4_drawBuy_38 rfl (lv_at hl 1 rfl) ?_
    refine lv_iload_n X.hx X.hb dX4_drawBuy_39 rfl (lv_at hl 0 rfl) ?_
    obtain ⟨r_8, hc_9, hf⟩ := bd_i hf
    refine r_wvi (As := [.int p1, .int r_2, .int r_5]) (rest := []) X sm_X4_163 (c_X4_whyNotBuy l G N uM uC iM_6 sM iC tC sC p1 r_2 r_5 hc_9) hP hD hS hA 0 rfl rfl rfl hl.1 (lv_room (Nat.le_of_ble_eq_true rfl)) ⟨Nat.le_of_ble_eq_true rfl, Nat.le_of_ble_eq_true rfl⟩ ⟨Nat.zero_le _, Nat.zero_le _⟩ dX4_drawBuy_40 (fun H locs hP hD hS => ?_)
    refine lv_if_ne (tgt := 53) X.hx X.hb dX4_drawBuy_43 (by decide) (fun hc_10 => ?_) (fun hc_10 => ?_)
    · replace hf := if_f hf hc_10
      cases hf
      subst hQ
      exact r_vret X hP hD hS dX4_drawBuy_53
    · replace hf := if_t hf hc_10
      refine lv_aload_n X.hx X.hb dX4_drawBuy_46 rfl (lv_at hl 2 rfl) ?_
      refine lv_iload_n X.hx X.hb dX4_drawBuy_47 rfl (lv_at hl 3 rfl) ?_
      refine lv_iload_n X.hx X.hb dX4_drawBuy_48 rfl (lv_at hl 1 rfl) ?_
      refine lv_iload_n X.hx X.hb dX4_drawBuy_49 rfl (lv_at hl 0 rfl) ?_
      obtain ⟨⟨iM_11, sM_12⟩, hc_13, hf⟩ := bd_i hf
      refine r_wvv (As := [.int p1, .int r_2, .int r_5]) (rest := []) X sm_X4_167 (c_X4_doBuy l G N uM uC iM_6 sM iC tC sC p1 r_2 r_5 hc_13) hP hD hS hA 0 rfl rfl rfl hl.1 (lv_room (Nat.le_of_ble_eq_true rfl)) ⟨Nat.le_of_ble_eq_true rfl, Nat.le_of_ble_eq_true rfl⟩ ⟨Nat.zero_le _, Nat.zero_le _⟩ dX4_drawBuy_50 (fun H locs hP hD hS => ?_)
      cases hf
      subst hQ
      exact r_vret X hP hD hS dX4_drawBuy_53
  · replace hf := if_f hf hc_1
    cases hf
    subst hQ
    exact r_vret X hP hD hS dX4_drawBuy_11

def f_X4_drawAct (N : Nat) (iM : Nat → Int32) (sM : Nat → Nat → Int32) (iC : Nat → Int32) (tC : Nat → Nat → Int64) (sC : Nat → Nat → Int32) (p1 : Int32) : Option ((Nat → Int32) × (Nat → Nat → Int32)) :=
  bd (f_X4_draw N iM sM iC tC sC 6) (fun (r_1, iM_2) => (if (2 : Int32) < r_1 then (if r_1 = 3 then bd (f_X4_draw N iM_2 sM iC tC sC (iC 0)) (fun (r_12, iM_13) => bd (f_X4_whyNotNod N iM_13 sM iC tC sC p1 r_12) (fun r_15 => (if r_15 = 0 then bd (f_X4_doNod N iM_13 sM iC tC sC p1 r_12) (fun (iM_18, sM_19) => some (iM_18, sM_19)) else some (iM_13, sM)))) else (if r_1 = 4 then bd (f_X4_whyNotVeil N iM_2 sM iC tC sC p1) (fun r_7 => (if r_7 = 0 then bd (f_X4_doVeil N iM_2 sM iC tC sC p1) (fun iM_10 => some (iM_10, sM)) else some (iM_2, sM))) else some (iM_2, sM))) else bd (f_X4_drawBuy N iM_2 sM iC tC sC p1) (fun (iM_21, sM_22) => some (iM_21, sM_22))))
set_option maxHeartbeats 4000000 in
set_option maxRecDepth 100000 in
theorem c_X4_drawAct (l : Launch) (G : GT) (N : Nat) (uM uC : Nat → Nat) (iM : Nat → Int32) (sM : Nat → Nat → Int32) (iC : Nat → Int32) (tC : Nat → Nat → Int64) (sC : Nat → Nat → Int32) (p1 : Int32) {iM' : Nat → Int32} {sM' : Nat → Nat → Int32} (hf : f_X4_drawAct N iM sM iC tC sC p1 = some (iM', sM')) : CV l G yX4_drawAct cX4_drawAct 4 5 [.ref (uM 0), .int p1] (gM G uM (uC 0) iM sM ++ gC G uC iC tC sC) (gM G uM (uC 0) iM' sM' ++ gC G uC iC tC sC) := by
  refine CV.of (by decide) (Nat.le_of_ble_eq_true rfl) ?_
  intro p e s m args below meth c A X hA hP hD hS ls hl
  have hl : lv_has ls 4 [(0, .ref (uM 0)), (1, .int p1)] := hl
  generalize hQ : MQ below (QV G A (gM G uM (uC 0) iM' sM' ++ gC G uC iC tC sC)) args s 0 0 A = QQ
  unfold f_X4_drawAct at hf
  refine lv_aload_n X.hx X.hb dX4_drawAct_0 rfl (lv_at hl 0 rfl) ?_
  refine lv_bipush (v := 6) X.hx X.hb dX4_drawAct_1 (by decide) ?_
  obtain ⟨⟨r_1, iM_2⟩, hc_3, hf⟩ := bd_i hf
  refine r_wvi (As := [.int 6]) (rest := []) X sm_X4_142 (c_X4_draw l G N uM uC iM sM iC tC sC 6 hc_3) hP hD hS hA 0 rfl rfl rfl hl.1 (lv_room (Nat.le_of_ble_eq_true rfl)) ⟨Nat.le_of_ble_eq_true rfl, Nat.le_of_ble_eq_true rfl⟩ ⟨Nat.zero_le _, Nat.zero_le _⟩ dX4_drawAct_3 (fun H locs hP hD hS => ?_)
  refine lv_istore_n (lv' := [(2, .int r_1), (0, .ref (uM 0)), (1, .int p1)]) X.hx X.hb dX4_drawAct_6 rfl hl (by decide) rfl (fun ls hl => ?_)
  refine lv_iload_n X.hx X.hb dX4_drawAct_7 rfl (lv_at hl 0 rfl) ?_
  refine lv_iconst (v := 2) X.hx X.hb dX4_drawAct_8 (by decide) ?_
  refine lv_icmp_gt (tgt := 20) X.hx X.hb dX4_drawAct_9 (by decide) (fun hc_4 => ?_) (fun hc_4 => ?_)
  · replace hf := if_t hf hc_4
    refine lv_iload_n X.hx X.hb dX4_drawAct_20 rfl (lv_at hl 0 rfl) ?_
    refine lv_iconst (v := 3) X.hx X.hb dX4_drawAct_21 (by decide) ?_
    refine lv_icmp_ne (tgt := 55) X.hx X.hb dX4_drawAct_22 (by decide) (fun hc_5 => ?_) (fun hc_5 => ?_)
    · replace hf := if_f hf hc_5
      refine lv_iload_n X.hx X.hb dX4_drawAct_55 rfl (lv_at hl 0 rfl) ?_
      refine lv_iconst (v := 4) X.hx X.hb dX4_drawAct_56 (by decide) ?_
      refine lv_icmp_ne (tgt := 73) X.hx X.hb dX4_drawAct_57 (by decide) (fun hc_6 => ?_) (fun hc_6 => ?_)
      · replace hf := if_f hf hc_6
        cases hf
        subst hQ
        exact r_vret X hP hD hS dX4_drawAct_73
      · replace hf := if_t hf hc_6
        refine lv_aload_n X.hx X.hb dX4_drawAct_60 rfl (lv_at hl 1 rfl) ?_
        refine lv_iload_n X.hx X.hb dX4_drawAct_61 rfl (lv_at hl 2 rfl) ?_
        obtain ⟨r_7, hc_8, hf⟩ := bd_i hf
        refine r_wvi (As := [.int p1]) (rest := []) X sm_X4_154 (c_X4_whyNotVeil l G N uM uC iM_2 sM iC tC sC p1 hc_8) hP hD hS hA 0 rfl rfl rfl hl.1 (lv_room (Nat.le_of_ble_eq_true rfl)) ⟨Nat.le_of_ble_eq_true rfl, Nat.le_of_ble_eq_true rfl⟩ ⟨Nat.zero_le _, Nat.zero_le _⟩ dX4_drawAct_62 (fun H locs hP hD hS => ?_)
        refine lv_if_ne (tgt := 73) X.hx X.hb dX4_drawAct_65 (by decide) (fun hc_9 => ?_) (fun hc_9 => ?_)
        · replace hf := if_f hf hc_9
          cases hf
          subst hQ
          exact r_vret X hP hD hS dX4_drawAct_73
        · replace hf := if_t hf hc_9
          refine lv_aload_n X.hx X.hb dX4_drawAct_68 rfl (lv_at hl 1 rfl) ?_
          refine lv_iload_n X.hx X.hb dX4_drawAct_69 rfl (lv_at hl 2 rfl) ?_
          obtain ⟨iM_10, hc_11, hf⟩ := bd_i hf
          refine r_wvv (As := [.int p1]) (rest := []) X sm_X4_157 (c_X4_doVeil l G N uM uC iM_2 sM iC tC sC p1 hc_11) hP hD hS hA 0 rfl rfl rfl hl.1 (lv_room (Nat.le_of_ble_eq_true rfl)) ⟨Nat.le_of_ble_eq_true rfl, Nat.le_of_ble_eq_true rfl⟩ ⟨Nat.zero_le _, Nat.zero_le _⟩ dX4_drawAct_70 (fun H locs hP hD hS => ?_)
          cases hf
          subst hQ
          exact r_vret X hP hD hS dX4_drawAct_73
    · replace hf := if_t hf hc_5
      refine lv_aload_n X.hx X.hb dX4_drawAct_25 rfl (lv_at hl 1 rfl) ?_
      refine lv_aload_n X.hx X.hb dX4_drawAct_26 rfl (lv_at hl 1 rfl) ?_
      refine gf_X4_30 X hP 0 rfl (v := .ref (uC 0)) rfl dX4_drawAct_27 ?_
      refine gf_X4_97 X hP 7 rfl (v := .int (iC 0)) rfl dX4_drawAct_30 ?_
      obtain ⟨⟨r_12, iM_13⟩, hc_14, hf⟩ := bd_i hf
      refine r_wvi (As := [.int (iC 0)]) (rest := []) X sm_X4_142 (c_X4_draw l G N uM uC iM_2 sM iC tC sC (iC 0) hc_14) hP hD hS hA 0 rfl rfl rfl hl.1 (lv_room (Nat.le_of_ble_eq_true rfl)) ⟨Nat.le_of_ble_eq_true rfl, Nat.le_of_ble_eq_true rfl⟩ ⟨Nat.zero_le _, Nat.zero_le _⟩ dX4_drawAct_33 (fun H locs hP hD hS => ?_)
      refine lv_istore_n (lv' := [(3, .int r_12), (2, .int r_1), (0, .ref (uM 0)), (1, .int p1)]) X.hx X.hb dX4_drawAct_36 rfl hl (by decide) rfl (fun ls hl => ?_)
      refine lv_aload_n X.hx X.hb dX4_drawAct_37 rfl (lv_at hl 2 rfl) ?_
      refine lv_iload_n X.hx X.hb dX4_drawAct_38 rfl (lv_at hl 3 rfl) ?_
      refine lv_iload_n X.hx X.hb dX4_drawAct_39 rfl (lv_at hl 0 rfl) ?_
      obtain ⟨r_15, hc_16, hf⟩ := bd_i hf
      refine r_wvi (As := [.int p1, .int r_12]) (rest := []) X sm_X4_148 (c_X4_whyNotNod l G N uM uC iM_13 sM iC tC sC p1 r_12 hc_16) hP hD hS hA 0 rfl rfl rfl hl.1 (lv_room (Nat.le_of_ble_eq_true rfl)) ⟨Nat.le_of_ble_eq_true rfl, Nat.le_of_ble_eq_true rfl⟩ ⟨Nat.zero_le _, Nat.zero_le _⟩ dX4_drawAct_40 (fun H locs hP hD hS => ?_)
      refine lv_if_ne (tgt := 52) X.hx X.hb dX4_drawAct_43 (by decide) (fun hc_17 => ?_) (fun hc_17 => ?_)
      · replace hf := if_f hf hc_17
        refine lv_goto (tgt := 73) X.hx X.hb dX4_drawAct_52 (by decide) ?_
        cases hf
        subst hQ
        exact r_vret X hP hD hS dX4_drawAct_73
      · replace hf := if_t hf hc_17
        refine lv_aload_n X.hx X.hb dX4_drawAct_46 rfl (lv_at hl 2 rfl) ?_
        refine lv_iload_n X.hx X.hb dX4_drawAct_47 rfl (lv_at hl 3 rfl) ?_
        refine lv_iload_n X.hx X.hb dX4_drawAct_48 rfl (lv_at hl 0 rfl) ?_
        obtain ⟨⟨iM_18, sM_19⟩, hc_20, hf⟩ := bd_i hf
        refine r_wvv (As := [.int p1, .int r_12]) (rest := []) X sm_X4_151 (c_X4_doNod l G N uM uC iM_13 sM iC tC sC p1 r_12 hc_20) hP hD hS hA 0 rfl rfl rfl hl.1 (lv_room (Nat.le_of_ble_eq_true rfl)) ⟨Nat.le_of_ble_eq_true rfl, Nat.le_of_ble_eq_true rfl⟩ ⟨Nat.zero_le _, Nat.zero_le _⟩ dX4_drawAct_49 (fun H locs hP hD hS => ?_)
        refine lv_goto (tgt := 73) X.hx X.hb dX4_drawAct_52 (by decide) ?_
        cases hf
        subst hQ
        exact r_vret X hP hD hS dX4_drawAct_73
  · replace hf := if_f hf hc_4
    refine lv_aload_n X.hx X.hb dX4_drawAct_12 rfl (lv_at hl 1 rfl) ?_
    refine lv_iload_n X.hx X.hb dX4_drawAct_13 rfl (lv_at hl 2 rfl) ?_
    obtain ⟨⟨iM_21, sM_22⟩, hc_23, hf⟩ := bd_i hf
    refine r_wvv (As := [.int p1]) (rest := []) X sm_X4_145 (c_X4_drawBuy l G N uM uC iM_2 sM iC tC sC p1 hc_23) hP hD hS hA 0 rfl rfl rfl hl.1 (lv_room (Nat.le_of_ble_eq_true rfl)) ⟨Nat.le_of_ble_eq_true rfl, Nat.le_of_ble_eq_true rfl⟩ ⟨Nat.zero_le _, Nat.zero_le _⟩ dX4_drawAct_14 (fun H locs hP hD hS => ?_)
    refine lv_goto (tgt := 73) X.hx X.hb dX4_drawAct_17 (by decide) ?_
    cases hf
    subst hQ
    exact r_vret X hP hD hS dX4_drawAct_73

