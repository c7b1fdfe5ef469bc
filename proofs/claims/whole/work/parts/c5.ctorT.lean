def f_X8_initr_25 (N : Nat) (sV : Nat → Nat → Int32) (iV : Nat → Int32) (jV : Nat → Int64) : Nat → (Nat → Nat → Int64) → (Int32) → (Int32) → Option ((Nat → Nat → Int64))
  | 0, _, _, _ => none
  | k + 1, tV, v1, v2 => (if (nI (lenS.getD 0 0)) ≤ v2 then some tV else (if (24 : Int32) ≤ v1 then some tV else ck v2 (lenS.getD 0 0) (jn (fun (z : (Int32) × (Nat → Nat → Int64)) => match z with | (x1_23, tV_24) => f_X8_initr_25 N sV iV jV k tV_24 x1_23 (v2 + 1)) (fun K_20 => (if (chS 0 (ix v2)) = 32 then K_20 ((v1 + 1), tV) else ck v1 24 (ck v1 24 (nv (vp_updL (tV 13) (ix v1) (((((tV 13) (ix v1)) * 32) + ((chS 0 (ix v2)).toInt64)) - 96)) (fun g_28 => K_20 (v1, (va_up tV 13 g_28))))))))))
def f_X8_initr (N : Nat) (sV : Nat → Nat → Int32) (iV : Nat → Int32) (jV : Nat → Int64) (tV : Nat → Nat → Int64) : Option ((Nat → Nat → Int64)) := f_X8_initr_25 N sV iV jV N tV 0 0
/-! PURE: what Tape() writes into its row of WORDS -/
def rwS (k : Nat) (w : Int64) : Nat → Int64 := fun m => if m < k then RSV m else if m = k then w else 0
theorem rw_s (k : Nat) (w x : Int64) : vp_updL (rwS k w) k x = rwS k x := by
  funext m
  unfold vp_updL rwS
  by_cases c : m = k
  · subst c; rw [if_pos rfl, if_neg (Nat.lt_irrefl _), if_pos rfl]
  · rw [if_neg c, if_neg c, if_neg c]
theorem rw_k (k : Nat) (w : Int64) : rwS k w k = w := by
  unfold rwS; rw [if_neg (Nat.lt_irrefl _), if_pos rfl]
theorem rw_n (k : Nat) : rwS k (RSV k) = rwS (k + 1) 0 := by
  funext m
  unfold rwS
  by_cases c : m < k
  · rw [if_pos c, if_pos (by omega)]
  · rw [if_neg c]
    by_cases d : m = k
    · subst d; rw [if_pos rfl, if_pos (by omega)]
    · rw [if_neg d, if_neg (by omega)]; split <;> rfl
theorem rw_0 : rwS 0 0 = fun _ => 0 := by
  funext m
  unfold rwS
  rw [if_neg (Nat.not_lt_zero _)]; split <;> rfl
theorem rw_24 : rwS 24 0 = RSV := by
  funext m
  unfold rwS
  by_cases c : m < 24
  · rw [if_pos c]
  · rw [if_neg c, rsv_0 (by omega)]; split <;> rfl
section
variable (N : Nat) (sV : Nat → Nat → Int32) (iV : Nat → Int32) (jV : Nat → Int64) (Z : Nat → Nat → Int64)
theorem ti_run : ∀ (j f i k : Nat), i + j ≤ 132 → k < 24 → (∀ m, m < j → ¬ chS 0 (i + m) = 32) → f_X8_initr_25 N sV iV jV (f + j) (va_up Z 13 (rwS k 0)) (nI k) (nI i) = f_X8_initr_25 N sV iV jV f (va_up Z 13 (rwS k ((List.range j).foldl (fun a m => a * 32 + (chS 0 (i + m)).toInt64 - 96) 0))) (nI k) (nI (i + j)) := by
  intro j
  induction j with
  | zero => intro f i k _ _ _; rfl
  | succ j ih =>
    intro f i k hij hk hb
    rw [show f + (j + 1) = f + 1 + j by omega, ih (f + 1) i k (by omega) hk (fun m hm => hb m (by omega)), List.range_succ, List.foldl_append]
    generalize (List.range j).foldl (fun a m => a * 32 + (chS 0 (i + m)).toInt64 - 96) 0 = w
    rw [f_X8_initr_25, show lenS.getD 0 0 = 132 from rfl, if_neg (nI_ge (show i + j < 132 by omega) (by omega)), L24, if_neg (nI_ge hk (by omega)), q_ck (show i + j < 132 by omega) (by omega), q_jn, show ix (nI (i + j)) = i + j from q_ix (by omega), if_neg (hb j (by omega)), q_ck hk (by omega), q_ck hk (by omega), q_nv, show ix (nI k) = k from q_ix (by omega), q_ve, rw_k, rw_s, q_vv, nI_1]
    rfl
theorem ti_seg {k : Nat} (hk : k < 24) (f : Nat) : f_X8_initr_25 N sV iV jV (f + 1 + (wds k).length) (va_up Z 13 (rwS k 0)) (nI k) (nI (wst.getD k 0)) = f_X8_initr_25 N sV iV jV f (va_up Z 13 (rwS (k + 1) 0)) (nI (k + 1)) (nI (wst.getD (k + 1) 0)) := by
  obtain ⟨h1, h2, h3, h4, h5⟩ := pw_tab k hk
  rw [ti_run N sV iV jV Z (wds k).length (f + 1) (wst.getD k 0) k (by omega) hk h4, show (0 : Int64) = lN 0 from rfl, h5, ← rsv_ok k hk, rw_n]
  rw [f_X8_initr_25, show lenS.getD 0 0 = 132 from rfl, if_neg (nI_ge (show wst.getD k 0 + (wds k).length < 132 by omega) (by omega)), L24, if_neg (nI_ge hk (by omega)), q_ck (show wst.getD k 0 + (wds k).length < 132 by omega) (by omega), q_jn, show ix (nI (wst.getD k 0 + (wds k).length)) = wst.getD k 0 + (wds k).length from q_ix (by omega), if_pos h3, nI_1, nI_1, h1]
  rfl
theorem x8_all (hN : 2000 ≤ N) : f_X8_initr N sV iV jV (va_up Z 13 (fun _ => 0)) = some (va_up Z 13 RSV) := by
  have key : ∀ j k f, k + j = 24 → 8 * j < f → f_X8_initr_25 N sV iV jV f (va_up Z 13 (rwS k 0)) (nI k) (nI (wst.getD k 0)) = some (va_up Z 13 RSV) := by
    intro j
    induction j with
    | zero =>
      intro k f hk hf
      have : k = 24 := by omega
      subst this
      obtain ⟨f, rfl⟩ : ∃ m, f = m + 1 := ⟨f - 1, by omega⟩
      rw [f_X8_initr_25, if_pos (by decide +kernel), rw_24]
    | succ j ih =>
      intro k f hk hf
      have hl := (wds_ok k (by omega)).2.2
      obtain ⟨g, rfl⟩ : ∃ g, f = g + 1 + (wds k).length := ⟨f - 1 - (wds k).length, by omega⟩
      rw [ti_seg N sV iV jV Z (by omega)]
      exact ih (k + 1) g (by omega) (by omega)
  unfold f_X8_initr
  rw [← rw_0]
  exact key 24 0 N (by omega) (by omega)
end
theorem x8_init : f_X8_initr 2000 (fun _ _ => 0) (fun _ => 0) (fun _ => 0) (fun _ _ => 0) = some (va_up (fun _ _ => (0 : Int64)) 13 RSV) := by
  have h := x8_all 2000 (fun _ _ => 0) (fun _ => 0) (fun _ => 0) (fun _ _ => 0) (Nat.le_refl _)
  rw [show (va_up (fun _ _ => 0) 13 (fun _ => 0) : Nat → Nat → Int64) = (fun _ _ => 0) from q_vid (α := Nat → Int64) (fun _ _ => 0) 13] at h
  exact h
set_option maxHeartbeats 4000000 in
set_option maxRecDepth 100000 in
theorem c_X8_init (l : Launch) (G : GT) (N : Nat) (a : Nat) : CN l G yX8_init cX8_init 4 5 2 964 [.ref a] [(a, .inr (8, [.null, .null, .int 0, .int 0, .int 0, .int 0, .int 0, .int 0, .int 0, .int 0, .int 0, .long 0, .int 0, .int 0]))] a (fun u => gT G (u 0) (fun _ _ => 0) (fun _ => 0) (fun _ => 0)) := by
  refine CN.of (by decide) rfl (Nat.le_of_ble_eq_true rfl) ?_
  intro p e s m args below meth c A X hin hA hP hD hS ls hl
  have hl : lv_has ls 4 [(0, .ref a)] := hl
  refine lv_aload_n X.hx X.hb dX8_init_0 rfl (lv_at hl 0 rfl) ?_
  refine r_objInit X tw_38 hl.1 (Nat.le_of_ble_eq_true rfl) (Nat.le_of_ble_eq_true rfl) dX8_init_1 ?_
  refine lv_aload_n X.hx X.hb dX8_init_4 rfl (lv_at hl 0 rfl) ?_
  refine lv_sipush (v := 940) X.hx X.hb dX8_init_5 (by decide) ?_
  refine r_newi X hP hD hS hA 940 (by decide) (by decide) (Nat.le_of_ble_eq_true rfl) (Nat.le_of_ble_eq_true rfl) (Nat.le_of_ble_eq_true rfl) dX8_init_8 (fun q_1 H hP hD hS => ?_)
  refine W.widen (k := 1) (n := 940) (Nat.le_of_ble_eq_true rfl) (Nat.le_of_ble_eq_true rfl) ?_
  replace hP : va_P G.1 vwCl ([(a, .inr (8, [.null, .null, .int 0, .int 0, .int 0, .int 0, .int 0, .int 0, .int 0, .int 0, .int 0, .long 0, .int 0, .int 0])), (q_1, .inl (G.2.1 1, 940, .inl (fun _ => 0)))]) H := hP
  replace hD : va_D A ([(a, .inr (8, [.null, .null, .int 0, .int 0, .int 0, .int 0, .int 0, .int 0, .int 0, .int 0, .int 0, .long 0, .int 0, .int 0])), (q_1, .inl (G.2.1 1, 940, .inl (fun _ => 0)))]) := hD
  refine va_putF (D := G.1) (ci := 8) (v := .ref q_1) (C := RX8) (T := TX8) (N := 14) X.hx X.hb X.hts hu_8 tyX8 tyX8_ok nmX8 X.hown X.hK hP hD hS 0 rfl rfl 0 (by decide) (X.hts _ tw_90) (fun _ h9 => h9) rfl hin rfl (tyX8_ok 0 (by decide)) rfl rfl (Nat.le_of_ble_eq_true rfl) dX8_init_10 (fun H locs hP hD hS => ?_)
  replace hP : va_P G.1 vwCl ([(a, .inr (8, [.ref q_1, .null, .int 0, .int 0, .int 0, .int 0, .int 0, .int 0, .int 0, .int 0, .int 0, .long 0, .int 0, .int 0])), (q_1, .inl (G.2.1 1, 940, .inl (fun _ => 0)))]) H := hP
  replace hD : va_D A ([(a, .inr (8, [.ref q_1, .null, .int 0, .int 0, .int 0, .int 0, .int 0, .int 0, .int 0, .int 0, .int 0, .long 0, .int 0, .int 0])), (q_1, .inl (G.2.1 1, 940, .inl (fun _ => 0)))]) := hD
  refine lv_aload_n X.hx X.hb dX8_init_13 rfl (lv_at hl 0 rfl) ?_
  refine lv_bipush (v := 24) X.hx X.hb dX8_init_14 (by decide) ?_
  refine r_newl X hP hD hS hA 24 (by decide) (by decide) (Nat.le_of_ble_eq_true rfl) (Nat.le_of_ble_eq_true rfl) (Nat.le_of_ble_eq_true rfl) dX8_init_16 (fun q_2 H hP hD hS => ?_)
  refine W.widen (k := 2) (n := 964) (Nat.le_of_ble_eq_true rfl) (Nat.le_of_ble_eq_true rfl) ?_
  replace hP : va_P G.1 vwCl ([(a, .inr (8, [.ref q_1, .null, .int 0, .int 0, .int 0, .int 0, .int 0, .int 0, .int 0, .int 0, .int 0, .long 0, .int 0, .int 0])), (q_1, .inl (G.2.1 1, 940, .inl (fun _ => 0))), (q_2, .inl (G.2.1 2, 24, .inr (.inl (fun _ => 0))))]) H := hP
  replace hD : va_D A ([(a, .inr (8, [.ref q_1, .null, .int 0, .int 0, .int 0, .int 0, .int 0, .int 0, .int 0, .int 0, .int 0, .long 0, .int 0, .int 0])), (q_1, .inl (G.2.1 1, 940, .inl (fun _ => 0))), (q_2, .inl (G.2.1 2, 24, .inr (.inl (fun _ => 0))))]) := hD
  refine va_putF (D := G.1) (ci := 8) (v := .ref q_2) (C := RX8) (T := TX8) (N := 14) X.hx X.hb X.hts hu_8 tyX8 tyX8_ok nmX8 X.hown X.hK hP hD hS 0 rfl rfl 1 (by decide) (X.hts _ tw_92) (fun _ h9 => h9) rfl hin rfl (tyX8_ok 1 (by decide)) rfl rfl (Nat.le_of_ble_eq_true rfl) dX8_init_18 (fun H locs hP hD hS => ?_)
  replace hP : va_P G.1 vwCl ([(a, .inr (8, [.ref q_1, .ref q_2, .int 0, .int 0, .int 0, .int 0, .int 0, .int 0, .int 0, .int 0, .int 0, .long 0, .int 0, .int 0])), (q_1, .inl (G.2.1 1, 940, .inl (fun _ => 0))), (q_2, .inl (G.2.1 2, 24, .inr (.inl (fun _ => 0))))]) H := hP
  replace hD : va_D A ([(a, .inr (8, [.ref q_1, .ref q_2, .int 0, .int 0, .int 0, .int 0, .int 0, .int 0, .int 0, .int 0, .int 0, .long 0, .int 0, .int 0])), (q_1, .inl (G.2.1 1, 940, .inl (fun _ => 0))), (q_2, .inl (G.2.1 2, 24, .inr (.inl (fun _ => 0))))]) := hD
  replace hP : va_P G.1 vwCl (gV G (ul [a, q_1, 0, 0, 0, 0, 0, 0, 0, 0, 0, 0, 0, 0, q_2]) (fun _ _ => 0) (fun _ => 0) (fun _ => 0) (fun _ _ => 0)) H := hP.sub (ws' := (gV G (ul [a, q_1, 0, 0, 0, 0, 0, 0, 0, 0, 0, 0, 0, 0, q_2]) (fun _ _ => 0) (fun _ => 0) (fun _ => 0) (fun _ _ => 0))) [0, 1, 2] rfl
  replace hD : va_D A (gV G (ul [a, q_1, 0, 0, 0, 0, 0, 0, 0, 0, 0, 0, 0, 0, q_2]) (fun _ _ => 0) (fun _ => 0) (fun _ => 0) (fun _ _ => 0)) := hD.sub (ws' := (gV G (ul [a, q_1, 0, 0, 0, 0, 0, 0, 0, 0, 0, 0, 0, 0, q_2]) (fun _ _ => 0) (fun _ => 0) (fun _ => 0) (fun _ _ => 0))) [0, 1, 2] (by decide) rfl
  obtain ⟨N, hf⟩ : ∃ N, f_X8_initr N (fun _ _ => 0) (fun _ => 0) (fun _ => 0) (fun _ _ => 0) = some (va_up (fun _ _ => (0 : Int64)) 13 RSV) := ⟨2000, x8_init⟩
  change W p l e _ s m args below meth c H _ 2 964 (MQ below (QN G A a (fun u => gV G (u 0) (fun _ _ => 0) (fun _ => 0) (fun _ => 0) (va_up (fun _ _ => (0 : Int64)) 13 RSV))) args s 2 964 A) _
  generalize (va_up (fun _ _ => (0 : Int64)) 13 RSV) = tV' at hf ⊢
  generalize hQ : MQ below (QN G A a (fun u => gV G (u 0) (fun _ _ => 0) (fun _ => 0) (fun _ => 0) tV')) args s 2 964 A = QQ
  have hu0 : (ulf [(ul [a, q_1, 0, 0, 0, 0, 0, 0, 0, 0, 0, 0, 0, 0, q_2])]) 0 0 = a := rfl
  change (ul [a, q_1, 0, 0, 0, 0, 0, 0, 0, 0, 0, 0, 0, 0, q_2]) 0 = a at hu0
  generalize (ul [a, q_1, 0, 0, 0, 0, 0, 0, 0, 0, 0, 0, 0, 0, q_2]) = uV at hP hD hu0
  generalize ((fun _ _ => 0) : Nat → Nat → Int32) = sV at hP hD hf hQ
  generalize ((fun _ => 0) : Nat → Int32) = iV at hP hD hf hQ
  generalize ((fun _ => 0) : Nat → Int64) = jV at hP hD hf hQ
  generalize ((fun _ _ => 0) : Nat → Nat → Int64) = tV at hP hD hf hQ
  have hl : lv_has ls 4 [(0, .ref (uV 0))] := by rw [hu0]; exact hl
  unfold f_X8_initr at hf
  refine lv_iconst (v := 0) X.hx X.hb dX8_init_21 (by decide) ?_
  refine lv_istore_n (lv' := [(1, .int 0), (0, .ref (uV 0))]) X.hx X.hb dX8_init_22 rfl hl (by decide) rfl (fun ls hl => ?_)
  refine lv_iconst (v := 0) X.hx X.hb dX8_init_23 (by decide) ?_
  refine lv_istore_n (lv' := [(2, .int 0), (1, .int 0), (0, .ref (uV 0))]) X.hx X.hb dX8_init_24 rfl hl (by decide) rfl (fun ls hl => ?_)
  have hlo_1 : ∀ (k : Nat) (tV_2 : Nat → Nat → Int64) (v1_3 : Int32) (v2_4 : Int32) (H : Heap) (locs : List Loc) (ls : Array Slot), f_X8_initr_25 N sV iV jV k tV_2 v1_3 v2_4 = some tV' → va_P G.1 vwCl (gV G uV sV iV jV tV_2) H → va_D A (gV G uV sV iV jV tV_2) → va_S A s.heap H locs → lv_has ls 4 [(0, .ref (uV 0)), (1, .int v1_3), (2, .int v2_4)] → W p l e (RMA 5 2 964) s m args below meth c H locs 2 964 QQ (F0 m 25 ls []) := by
    intro k
    induction k with
    | zero => intro tV_2 v1_3 v2_4 H locs ls hf; exact absurd hf (by intro q; cases q)
    | succ k ih =>
      intro tV_2 v1_3 v2_4 H locs ls hf hP hD hS hl
      unfold f_X8_initr_25 at hf
      refine lv_iload_n X.hx X.hb dX8_init_25 rfl (lv_at hl 2 rfl) ?_
      refine va_ldcS X.hx X.hb X.hown X.hSX.2.2.2.1 dX8_init_26 ?_
      refine r_cvS (As := []) (rest := [.int v2_4]) X sm_X8_21 rfl (by decide) (c_J0_length_8abf5 l G 0 (by decide)) hP hD hS hA rfl hl.1 (lv_room (Nat.le_of_ble_eq_true rfl)) ⟨Nat.le_of_ble_eq_true rfl, Nat.le_of_ble_eq_true rfl⟩ ⟨Nat.le_of_ble_eq_true rfl, Nat.le_of_ble_eq_true rfl⟩ dX8_init_28 (fun H locs hP hD hS => ?_)
      refine lv_icmp_ge (tgt := 88) X.hx X.hb dX8_init_31 (by decide) (fun hc_5 => ?_) (fun hc_5 => ?_)
      · replace hf := if_t hf hc_5
        cases hf
        subst hQ
        exact r_nret X (ulf [uV]) hu0 hP hD hS dX8_init_88
      · replace hf := if_f hf hc_5
        refine lv_iload_n X.hx X.hb dX8_init_34 rfl (lv_at hl 1 rfl) ?_
        refine lv_bipush (v := 24) X.hx X.hb dX8_init_35 (by decide) ?_
        refine lv_icmp_ge (tgt := 88) X.hx X.hb dX8_init_37 (by decide) (fun hc_6 => ?_) (fun hc_6 => ?_)
        · replace hf := if_t hf hc_6
          cases hf
          subst hQ
          exact r_nret X (ulf [uV]) hu0 hP hD hS dX8_init_88
        · replace hf := if_f hf hc_6
          refine va_ldcS X.hx X.hb X.hown X.hSX.2.2.2.1 dX8_init_40 ?_
          refine lv_iload_n X.hx X.hb dX8_init_42 rfl (lv_at hl 2 rfl) ?_
          obtain ⟨hk_7, hf⟩ := ck_i hf
          refine r_sch (rest := []) X sm_X8_27 (by decide) hk_7 hP hD hS hA hl.1 (lv_room (Nat.le_of_ble_eq_true rfl)) ⟨Nat.le_of_ble_eq_true rfl, Nat.le_of_ble_eq_true rfl⟩ ⟨Nat.le_of_ble_eq_true rfl, Nat.le_of_ble_eq_true rfl⟩ dX8_init_43 (fun H locs hP hD hS => ?_)
          refine lv_istore_n (lv' := [(3, .int (chS 0 (ix v2_4))), (0, .ref (uV 0)), (1, .int v1_3), (2, .int v2_4)]) X.hx X.hb dX8_init_46 rfl hl (by decide) rfl (fun ls hl => ?_)
          refine lv_iload_n X.hx X.hb dX8_init_47 rfl (lv_at hl 0 rfl) ?_
          refine lv_bipush (v := 32) X.hx X.hb dX8_init_48 (by decide) ?_
          obtain ⟨K_8, eK_10, hf⟩ := jn_i hf
          have hj_9 : ∀ (x1_11 : Int32) (tV_12 : Nat → Nat → Int64) (H : Heap) (locs : List Loc) (ls : Array Slot), K_8 (x1_11, tV_12) = some tV' → va_P G.1 vwCl (gV G uV sV iV jV tV_12) H → va_D A (gV G uV sV iV jV tV_12) → va_S A s.heap H locs → lv_has ls 4 [(0, .ref (uV 0)), (1, .int x1_11), (2, .int v2_4)] → W p l e (RMA 5 2 964) s m args below meth c H locs 2 964 QQ (F0 m 82 ls []) := by
            intro x1_11 tV_12 H locs ls hf hP hD hS hl
            rw [eK_10] at hf
            try dsimp only at hf
            refine lv_iinc (v := (v2_4 + 1)) (lv' := [(2, .int (v2_4 + 1)), (0, .ref (uV 0)), (1, .int x1_11)]) X.hx X.hb dX8_init_82 hl (k := 2) rfl rfl (by decide) rfl (fun ls hl => ?_)
            refine lv_goto (tgt := 25) X.hx X.hb dX8_init_85 (by decide) ?_
            exact ih _ _ _ _ _ _ hf hP hD hS (lv_sub hl [1, 2, 0] rfl)
          refine lv_icmp_ne (tgt := 59) X.hx X.hb dX8_init_50 (by decide) (fun hc_13 => ?_) (fun hc_13 => ?_)
          · replace hf := if_f hf hc_13
            refine lv_aload_n X.hx X.hb dX8_init_59 rfl (lv_at hl 1 rfl) ?_
            refine gf_X8_15 X hP 0 rfl (v := .ref (uV 14)) rfl dX8_init_60 ?_
            refine lv_iload_n X.hx X.hb dX8_init_63 rfl (lv_at hl 2 rfl) ?_
            refine lv_aload_n X.hx X.hb dX8_init_64 rfl (lv_at hl 1 rfl) ?_
            refine gf_X8_15 X hP 0 rfl (v := .ref (uV 14)) rfl dX8_init_65 ?_
            refine lv_iload_n X.hx X.hb dX8_init_68 rfl (lv_at hl 2 rfl) ?_
            obtain ⟨hi_14, hf⟩ := ck_i hf
            refine r_lald X hP 2 (f := (tV_2 13)) rfl hi_14 dX8_init_69 ?_
            refine lv_ldc2 (v := 32) X.hx X.hb X.hown (X.hts _ tw_88) dX8_init_70 ?_
            refine lv_lmul X.hx X.hb dX8_init_73 ?_
            refine lv_iload_n X.hx X.hb dX8_init_74 rfl (lv_at hl 0 rfl) ?_
            refine lv_i2l (v := ((chS 0 (ix v2_4)).toInt64)) X.hx X.hb dX8_init_75 rfl ?_
            refine lv_ladd X.hx X.hb dX8_init_76 ?_
            refine lv_ldc2 (v := 96) X.hx X.hb X.hown (X.hts _ tw_89) dX8_init_77 ?_
            refine lv_lsub X.hx X.hb dX8_init_80 ?_
            obtain ⟨hi_15, hf⟩ := ck_i hf
            obtain ⟨g_16, eg_16, hf⟩ := nv_i hf
            refine r_last X hP hD hS 2 (f := (tV_2 13)) rfl hi_15 (wo := (gV G uV sV iV jV (va_up tV_2 13 g_16))) (by subst eg_16; rfl) dX8_init_81 (fun H locs hP hD hS => ?_)
            exact hj_9 _ _ _ _ _ hf hP hD hS (lv_sub hl [1, 2, 3] rfl)
          · replace hf := if_t hf hc_13
            refine lv_iinc (v := (v1_3 + 1)) (lv' := [(1, .int (v1_3 + 1)), (3, .int (chS 0 (ix v2_4))), (0, .ref (uV 0)), (2, .int v2_4)]) X.hx X.hb dX8_init_53 hl (k := 2) rfl rfl (by decide) rfl (fun ls hl => ?_)
            refine lv_goto (tgt := 82) X.hx X.hb dX8_init_56 (by decide) ?_
            exact hj_9 _ _ _ _ _ hf hP hD hS (lv_sub hl [2, 0, 3] rfl)
  exact hlo_1 N _ _ _ _ _ _ hf hP hD hS (lv_sub hl [2, 1, 0] rfl)
