/-! the law's own person -/
theorem dL_person_0 : decode cL_person 0 = .ok (.aload_n 3, 1) := by decide +kernel
theorem dL_person_1 : decode cL_person 1 = .ok (.iconst 0, 1) := by decide +kernel
theorem dL_person_2 : decode cL_person 2 = .ok (.aload_n 0, 1) := by decide +kernel
theorem dL_person_3 : decode cL_person 3 = .ok (.iload_n 1, 1) := by decide +kernel
theorem dL_person_4 : decode cL_person 4 = .ok (.iload_n 2, 1) := by decide +kernel
theorem dL_person_5 : decode cL_person 5 = .ok (.invokevirtual 7, 3) := by decide +kernel
theorem dL_person_8 : decode cL_person 8 = .ok (.i2l, 1) := by decide +kernel
theorem dL_person_9 : decode cL_person 9 = .ok (.lastore, 1) := by decide +kernel
theorem dL_person_10 : decode cL_person 10 = .ok (.goto 7, 3) := by decide +kernel
theorem dL_person_13 : decode cL_person 13 = .ok (.astore 4, 2) := by decide +kernel
theorem dL_person_15 : decode cL_person 15 = .ok (.iconst 1, 1) := by decide +kernel
theorem dL_person_16 : decode cL_person 16 = .ok (.ireturn, 1) := by decide +kernel
theorem dL_person_17 : decode cL_person 17 = .ok (.iconst 0, 1) := by decide +kernel
theorem dL_person_18 : decode cL_person 18 = .ok (.ireturn, 1) := by decide +kernel
theorem tw_lp : Cond.codeWith yL_person cL_person 5 (some .int) [(0, 10, 13, 13)] ∈ TT := tt_of (in_6 (List.mem_of_getElem? (i := 3) rfl)) rfl
set_option maxHeartbeats 4000000 in
theorem c_L_personR (l : Launch) (G : GT) (N : Nat) (uX uM uC : Nat → Nat) (xX0 xX2 xX4 xX7 xX8 xX9 xX10 xX11 xX12 xX13 : Nat) (qX : Nat → Option Nat) (iX : Nat → Int32) (iM : Nat → Int32) (sM : Nat → Nat → Int32) (iC : Nat → Int32) (tC : Nat → Nat → Int64) (sC : Nat → Nat → Int32) (p1 : Int32) (qo : Nat) (o : Nat → Int64) {r : Int32} (hp : f_X1_isPerson N iC tC sC p1 = some 1) (k : Nat) (hk : k < 8) (hf : f_X10_pv N iM sM iC tC sC p1 k = some r) : ∀ sz, Met l yL_person (Cond.codeWith yL_person cL_person 5 (some .int) [(0, 10, 13, 13)] :: TT) (RMA 8 1 6) (va_Pc [.ref (uX 0), .int p1, .int (nI k), .ref qo] (PE G (gX G uX xX0 (uC 0) xX2 (uM 0) xX4 xX7 xX8 xX9 xX10 xX11 xX12 xX13 qX iX ++ gM G uM (uC 0) iM sM ++ gC G uC iC tC sC ++ [(qo, .inl (G.2.1 2, 1, .inr (.inl o)))]) sz)) (QI G (va_A (gX G uX xX0 (uC 0) xX2 (uM 0) xX4 xX7 xX8 xX9 xX10 xX11 xX12 xX13 qX iX ++ gM G uM (uC 0) iM sM ++ gC G uC iC tC sC ++ [(qo, .inl (G.2.1 2, 1, .inr (.inl o)))]) sz) 0 (gX G uX xX0 (uC 0) xX2 (uM 0) xX4 xX7 xX8 xX9 xX10 xX11 xX12 xX13 qX iX ++ gM G uM (uC 0) iM sM ++ gC G uC iC tC sC ++ [(qo, .inl (G.2.1 2, 1, .inr (.inl (vp_updL o (0 : Int32).toNatClampNeg r.toInt64))))])) 1 6 (va_A (gX G uX xX0 (uC 0) xX2 (uM 0) xX4 xX7 xX8 xX9 xX10 xX11 xX12 xX13 qX iX ++ gM G uM (uC 0) iM sM ++ gC G uC iC tC sC ++ [(qo, .inl (G.2.1 2, 1, .inr (.inl o)))]) sz) := by
  intro sz
  refine met_ofWH (cc := cL_person) (maxL := 5) (ret := some .int) (hh := [(0, 10, 13, 13)]) (by decide) rfl ?_
  intro p e s m args below meth c s₁ B hml hv
  obtain ⟨rfl, ⟨hsz, hP, hK, hD0, hSX⟩, hEX⟩ := hv
  have hts := atoms_spec (ws := Cond.codeWith yL_person cL_person 5 (some .int) [(0, 10, 13, 13)] :: TT) B.pre
  have htab := vx_table (x := yL_person) B (hts _ List.mem_cons_self)
  subst hsz
  have hD := hD0.self (sz := s.heap.size)
  have hl := lv_entry [.ref (uX 0), .int p1, .int (nI k), .ref qo] (n := 5) (Nat.le_of_ble_eq_true rfl)
  rw [lg_entry_eq]
  have hA : ∀ q : Nat, s.heap.size ≤ q → va_A (gX G uX xX0 (uC 0) xX2 (uM 0) xX4 xX7 xX8 xX9 xX10 xX11 xX12 xX13 qX iX ++ gM G uM (uC 0) iM sM ++ gC G uC iC tC sC ++ [(qo, .inl (G.2.1 2, 1, .inr (.inl o)))]) s.heap.size q := fun q h => Or.inr h
  generalize va_A (gX G uX xX0 (uC 0) xX2 (uM 0) xX4 xX7 xX8 xX9 xX10 xX11 xX12 xX13 qX iX ++ gM G uM (uC 0) iM sM ++ gC G uC iC tC sC ++ [(qo, .inl (G.2.1 2, 1, .inr (.inl o)))]) s.heap.size = A at hD hSX hEX hA ⊢
  have X : CX G A RL cL_person 5 (some .int) p s m _ meth c := ⟨B.exec, B.bytes, hml, findClass_of_methodNamed B.named, fun w h => hts w (List.mem_cons_of_mem _ h), hK, B.returns, B.notSynchronized, hSX⟩
  have hS : va_S A s.heap s.heap [] := va_S.rf
  suffices K : ∀ ls : Array Slot, lv_has ls 5 (lv_args 0 [.ref (uX 0), .int p1, .int (nI k), .ref qo]) → W p l e (RMA 8 1 6) s m ([.ref (uX 0), .int p1, .int (nI k), .ref qo] : List Value).toArray below meth c s.heap [] 0 0 (MQ below (QI G A 0 (gX G uX xX0 (uC 0) xX2 (uM 0) xX4 xX7 xX8 xX9 xX10 xX11 xX12 xX13 qX iX ++ gM G uM (uC 0) iM sM ++ gC G uC iC tC sC ++ [(qo, .inl (G.2.1 2, 1, .inr (.inl (vp_updL o (0 : Int32).toNatClampNeg r.toInt64))))])) ([.ref (uX 0), .int p1, .int (nI k), .ref qo] : List Value).toArray s 1 6 A) (F0 m 0 ls []) from K _ hl
  intro ls hl
  have hl : lv_has ls 5 [(0, .ref (uX 0)), (1, .int p1), (2, .int (nI k)), (3, .ref qo)] := hl
  refine lv_aload_n X.hx X.hb dL_person_0 rfl (lv_at hl 3 rfl) ?_
  refine lv_iconst (v := 0) X.hx X.hb dL_person_1 (by decide) ?_
  refine lv_aload_n X.hx X.hb dL_person_2 rfl (lv_at hl 0 rfl) ?_
  refine lv_iload_n X.hx X.hb dL_person_3 rfl (lv_at hl 1 rfl) ?_
  refine lv_iload_n X.hx X.hb dL_person_4 rfl (lv_at hl 2 rfl) ?_
  refine r_bvi [] [(qo, .inl (G.2.1 2, 1, .inr (.inl o)))] (As := [.int p1, .int (nI k)]) (rest := [.int 0, .ref qo]) X sm_L_7 (c_X10_personR l G N uX uM uC xX0 xX2 xX4 xX7 xX8 xX9 xX10 xX11 xX12 xX13 qX iX iM sM iC tC sC p1 hp k hk hf) hP hD hS hA rfl (wo := (gX G uX xX0 (uC 0) xX2 (uM 0) xX4 xX7 xX8 xX9 xX10 xX11 xX12 xX13 qX iX ++ gM G uM (uC 0) iM sM ++ gC G uC iC tC sC ++ [(qo, .inl (G.2.1 2, 1, .inr (.inl o)))])) rfl 0 rfl rfl rfl hl.1 (lv_room (Nat.le_of_ble_eq_true rfl)) ⟨Nat.le_of_ble_eq_true rfl, Nat.le_of_ble_eq_true rfl⟩ ⟨Nat.zero_le _, Nat.zero_le _⟩ dL_person_5 (fun H locs hP hD hS => ?_)
  refine lv_i2l X.hx X.hb dL_person_8 rfl ?_
  refine r_last X hP hD hS 17 rfl (vp_in_nI (n := 0) (N := 1) (by decide) (by decide)) (wo := (gX G uX xX0 (uC 0) xX2 (uM 0) xX4 xX7 xX8 xX9 xX10 xX11 xX12 xX13 qX iX ++ gM G uM (uC 0) iM sM ++ gC G uC iC tC sC ++ [(qo, .inl (G.2.1 2, 1, .inr (.inl (vp_updL o (0 : Int32).toNatClampNeg r.toInt64))))])) rfl dL_person_9 (fun H locs hP hD hS => ?_)
  refine lv_goto (tgt := 17) X.hx X.hb dL_person_10 (by decide) ?_
  refine lv_iconst (v := 0) X.hx X.hb dL_person_17 (by decide) ?_
  refine W.widen (k := 1) (n := 6) (Nat.zero_le _) (Nat.zero_le _) ?_
  exact r_iret X hP hD hS dL_person_18
set_option maxHeartbeats 4000000 in
theorem c_L_personT (l : Launch) (hfl : l.stackTraces = false) (G : GT) (N : Nat) (uX uM uC : Nat → Nat) (xX0 xX2 xX4 xX7 xX8 xX9 xX10 xX11 xX12 xX13 : Nat) (qX : Nat → Option Nat) (iX : Nat → Int32) (iM : Nat → Int32) (sM : Nat → Nat → Int32) (iC : Nat → Int32) (tC : Nat → Nat → Int64) (sC : Nat → Nat → Int32) (p1 : Int32) (qo : Nat) (o : Nat → Int64) (p2 : Int32) (hp : f_X1_isPerson N iC tC sC p1 = some 0 ∨ (f_X1_isPerson N iC tC sC p1 = some 1 ∧ (p2 < 0 ∨ ¬ p2 ≤ 7))) : ∀ sz, Met l yL_person (Cond.codeWith yL_person cL_person 5 (some .int) [(0, 10, 13, 13)] :: TT) (RMA 8 1 6) (va_Pc [.ref (uX 0), .int p1, .int p2, .ref qo] (PE G (gX G uX xX0 (uC 0) xX2 (uM 0) xX4 xX7 xX8 xX9 xX10 xX11 xX12 xX13 qX iX ++ gM G uM (uC 0) iM sM ++ gC G uC iC tC sC ++ [(qo, .inl (G.2.1 2, 1, .inr (.inl o)))]) sz)) (QI G (va_A (gX G uX xX0 (uC 0) xX2 (uM 0) xX4 xX7 xX8 xX9 xX10 xX11 xX12 xX13 qX iX ++ gM G uM (uC 0) iM sM ++ gC G uC iC tC sC ++ [(qo, .inl (G.2.1 2, 1, .inr (.inl o)))]) sz) 1 (gX G uX xX0 (uC 0) xX2 (uM 0) xX4 xX7 xX8 xX9 xX10 xX11 xX12 xX13 qX iX ++ gM G uM (uC 0) iM sM ++ gC G uC iC tC sC ++ [(qo, .inl (G.2.1 2, 1, .inr (.inl o)))])) 1 6 (va_A (gX G uX xX0 (uC 0) xX2 (uM 0) xX4 xX7 xX8 xX9 xX10 xX11 xX12 xX13 qX iX ++ gM G uM (uC 0) iM sM ++ gC G uC iC tC sC ++ [(qo, .inl (G.2.1 2, 1, .inr (.inl o)))]) sz) := by
  intro sz
  refine met_ofWH (cc := cL_person) (maxL := 5) (ret := some .int) (hh := [(0, 10, 13, 13)]) (by decide) rfl ?_
  intro p e s m args below meth c s₁ B hml hv
  obtain ⟨rfl, ⟨hsz, hP, hK, hD0, hSX⟩, hEX⟩ := hv
  have hts := atoms_spec (ws := Cond.codeWith yL_person cL_person 5 (some .int) [(0, 10, 13, 13)] :: TT) B.pre
  have htab := vx_table (x := yL_person) B (hts _ List.mem_cons_self)
  subst hsz
  have hD := hD0.self (sz := s.heap.size)
  have hl := lv_entry [.ref (uX 0), .int p1, .int p2, .ref qo] (n := 5) (Nat.le_of_ble_eq_true rfl)
  rw [lg_entry_eq]
  have hA : ∀ q : Nat, s.heap.size ≤ q → va_A (gX G uX xX0 (uC 0) xX2 (uM 0) xX4 xX7 xX8 xX9 xX10 xX11 xX12 xX13 qX iX ++ gM G uM (uC 0) iM sM ++ gC G uC iC tC sC ++ [(qo, .inl (G.2.1 2, 1, .inr (.inl o)))]) s.heap.size q := fun q h => Or.inr h
  generalize va_A (gX G uX xX0 (uC 0) xX2 (uM 0) xX4 xX7 xX8 xX9 xX10 xX11 xX12 xX13 qX iX ++ gM G uM (uC 0) iM sM ++ gC G uC iC tC sC ++ [(qo, .inl (G.2.1 2, 1, .inr (.inl o)))]) s.heap.size = A at hD hSX hEX hA ⊢
  have X : CX G A RL cL_person 5 (some .int) p s m _ meth c := ⟨B.exec, B.bytes, hml, findClass_of_methodNamed B.named, fun w h => hts w (List.mem_cons_of_mem _ h), hK, B.returns, B.notSynchronized, hSX⟩
  have hS : va_S A s.heap s.heap [] := va_S.rf
  suffices K : ∀ ls : Array Slot, lv_has ls 5 (lv_args 0 [.ref (uX 0), .int p1, .int p2, .ref qo]) → W p l e (RMA 8 1 6) s m ([.ref (uX 0), .int p1, .int p2, .ref qo] : List Value).toArray below meth c s.heap [] 0 0 (MQ below (QI G A 1 (gX G uX xX0 (uC 0) xX2 (uM 0) xX4 xX7 xX8 xX9 xX10 xX11 xX12 xX13 qX iX ++ gM G uM (uC 0) iM sM ++ gC G uC iC tC sC ++ [(qo, .inl (G.2.1 2, 1, .inr (.inl o)))])) ([.ref (uX 0), .int p1, .int p2, .ref qo] : List Value).toArray s 1 6 A) (F0 m 0 ls []) from K _ hl
  intro ls hl
  have hl : lv_has ls 5 [(0, .ref (uX 0)), (1, .int p1), (2, .int p2), (3, .ref qo)] := hl
  refine lv_aload_n X.hx X.hb dL_person_0 rfl (lv_at hl 3 rfl) ?_
  refine lv_iconst (v := 0) X.hx X.hb dL_person_1 (by decide) ?_
  refine lv_aload_n X.hx X.hb dL_person_2 rfl (lv_at hl 0 rfl) ?_
  refine lv_iload_n X.hx X.hb dL_person_3 rfl (lv_at hl 1 rfl) ?_
  refine lv_iload_n X.hx X.hb dL_person_4 rfl (lv_at hl 2 rfl) ?_
  have hP' : va_P G.1 vwCl ([] ++ ((gX G uX xX0 (uC 0) xX2 (uM 0) xX4 xX7 xX8 xX9 xX10 xX11 xX12 xX13 qX iX ++ gM G uM (uC 0) iM sM ++ gC G uC iC tC sC) ++ [(qo, .inl (G.2.1 2, 1, .inr (.inl o)))])) s.heap := hP
  have hD' : va_D A ([] ++ ((gX G uX xX0 (uC 0) xX2 (uM 0) xX4 xX7 xX8 xX9 xX10 xX11 xX12 xX13 qX iX ++ gM G uM (uC 0) iM sM ++ gC G uC iC tC sC) ++ [(qo, .inl (G.2.1 2, 1, .inr (.inl o)))])) := hD
  have hPc := (vb_sub hP' hD').1
  have hDc := (vb_sub hP' hD').2
  have hF := fr_all hDc hS hA
  refine vx_calli (vx_runV (As := [.int p1, .int p2]) (rest := [.int 0, .ref qo]) X.fix (c_X10_personT l hfl G N uX uM uC xX0 xX2 xX4 xX7 xX8 xX9 xX10 xX11 xX12 xX13 qX iX iM sM iC tC sC p1 p2 hp s.heap.size) ⟨callB_of 2 X.hts (tt_code sm_L_7.1.2.2.1) rfl rfl rfl (X.hts _ sm_L_7.1.2.1) (X.hts _ sm_L_7.1.1) sm_L_7.1.2.2.2 ⟨Nat.le_of_ble_eq_true rfl, Nat.le_of_ble_eq_true rfl⟩, X.hts _ sm_L_7.2.1, X.hts _ sm_L_7.2.2⟩ ⟨PE.blind, va_recv X.hK hP (ci := 10) rfl (q0 := 0) rfl, fun U hU hW => ⟨rfl, ⟨by rw [hU], by rw [hU]; exact hPc, KX.warm hW X.hKX, hDc.weaken (fun _ _ _ _ => trivial), SX.go X.hSX hS hF hU hW⟩, EX.go hEX hS hF hU hW⟩⟩ rfl rfl hl.1 rfl (lv_room (Nat.le_of_ble_eq_true rfl)) dL_person_5 ⟨Nat.le_of_ble_eq_true rfl, Nat.le_of_ble_eq_true rfl⟩) hS (fun q _ h => hF q h) hF (fun q _ h => hF q h) (fun E ce q9 u t H1 locs1 ht hvm hpx hB hz hk hS1 hce hcv hcl => ?_) (fun r u t H1 locs1 ht hvm hpx hB hz hk hS1 => hpx.elim)
  obtain ⟨rfl, hP1⟩ := hB
  rw [ht] at hP1
  obtain ⟨hP2, hD2⟩ := vb_ok hP' hD' hk hF hP1 (hDc.self (sz := s.heap.size))
  refine vx_catch X.hown [] ⟨0, 10, 13, 13⟩ [] htab (fun z hz => absurd hz List.not_mem_nil) (by decide) (by decide) (X.hts _ tw_1204) (va_any rfl (hEX.2.2 _ List.mem_cons_self)) hce hcv hcl ?_
  refine lv_astore (lv' := [(4, .ref q9), (0, .ref (uX 0)), (1, .int p1), (2, .int p2), (3, .ref qo)]) X.hx X.hb dL_person_13 hl (by decide) rfl (fun ls hl => ?_)
  refine lv_iconst (v := 1) X.hx X.hb dL_person_15 (by decide) ?_
  exact r_iret X hP2 hD2 hS1 dL_person_16
