theorem dJ0_length_8abf5_0 : decode cJ0_length_8abf5 0 = .ok (.aload_n 0, 1) := by decide +kernel
theorem dJ0_length_8abf5_1 : decode cJ0_length_8abf5 1 = .ok (.getfield 9, 3) := by decide +kernel
theorem dJ0_length_8abf5_4 : decode cJ0_length_8abf5 4 = .ok (.arraylength, 1) := by decide +kernel
theorem dJ0_length_8abf5_5 : decode cJ0_length_8abf5 5 = .ok (.aload_n 0, 1) := by decide +kernel
theorem dJ0_length_8abf5_6 : decode cJ0_length_8abf5 6 = .ok (.invokevirtual 335, 3) := by decide +kernel
theorem dJ0_length_8abf5_9 : decode cJ0_length_8abf5 9 = .ok (.ishr, 1) := by decide +kernel
theorem dJ0_length_8abf5_10 : decode cJ0_length_8abf5 10 = .ok (.ireturn, 1) := by decide +kernel
theorem dJ0_charAt_5068e_0 : decode cJ0_charAt_5068e 0 = .ok (.aload_n 0, 1) := by decide +kernel
theorem dJ0_charAt_5068e_1 : decode cJ0_charAt_5068e 1 = .ok (.invokevirtual 492, 3) := by decide +kernel
theorem dJ0_charAt_5068e_4 : decode cJ0_charAt_5068e 4 = .ok (.ifCond .eq 12, 3) := by decide +kernel
theorem dJ0_charAt_5068e_7 : decode cJ0_charAt_5068e 7 = .ok (.aload_n 0, 1) := by decide +kernel
theorem dJ0_charAt_5068e_8 : decode cJ0_charAt_5068e 8 = .ok (.getfield 9, 3) := by decide +kernel
theorem dJ0_charAt_5068e_11 : decode cJ0_charAt_5068e 11 = .ok (.iload_n 1, 1) := by decide +kernel
theorem dJ0_charAt_5068e_12 : decode cJ0_charAt_5068e 12 = .ok (.invokestatic 495, 3) := by decide +kernel
theorem dJ0_charAt_5068e_15 : decode cJ0_charAt_5068e 15 = .ok (.ireturn, 1) := by decide +kernel
theorem dJ0_charAt_5068e_16 : decode cJ0_charAt_5068e 16 = .ok (.aload_n 0, 1) := by decide +kernel
theorem dJ0_charAt_5068e_17 : decode cJ0_charAt_5068e 17 = .ok (.getfield 9, 3) := by decide +kernel
theorem dJ0_charAt_5068e_20 : decode cJ0_charAt_5068e 20 = .ok (.iload_n 1, 1) := by decide +kernel
theorem dJ0_charAt_5068e_21 : decode cJ0_charAt_5068e 21 = .ok (.invokestatic 498, 3) := by decide +kernel
theorem dJ0_charAt_5068e_24 : decode cJ0_charAt_5068e 24 = .ok (.ireturn, 1) := by decide +kernel
theorem dJ0_coder_7d493_0 : decode cJ0_coder_7d493 0 = .ok (.getstatic 38, 3) := by decide +kernel
theorem dJ0_coder_7d493_3 : decode cJ0_coder_7d493 3 = .ok (.ifCond .eq 10, 3) := by decide +kernel
theorem dJ0_coder_7d493_6 : decode cJ0_coder_7d493 6 = .ok (.aload_n 0, 1) := by decide +kernel
theorem dJ0_coder_7d493_7 : decode cJ0_coder_7d493 7 = .ok (.getfield 15, 3) := by decide +kernel
theorem dJ0_coder_7d493_10 : decode cJ0_coder_7d493 10 = .ok (.goto 4, 3) := by decide +kernel
theorem dJ0_coder_7d493_13 : decode cJ0_coder_7d493 13 = .ok (.iconst 1, 1) := by decide +kernel
theorem dJ0_coder_7d493_14 : decode cJ0_coder_7d493 14 = .ok (.ireturn, 1) := by decide +kernel
theorem dJ0_isLatin1_aae02_0 : decode cJ0_isLatin1_aae02 0 = .ok (.getstatic 38, 3) := by decide +kernel
theorem dJ0_isLatin1_aae02_3 : decode cJ0_isLatin1_aae02 3 = .ok (.ifCond .eq 14, 3) := by decide +kernel
theorem dJ0_isLatin1_aae02_6 : decode cJ0_isLatin1_aae02 6 = .ok (.aload_n 0, 1) := by decide +kernel
theorem dJ0_isLatin1_aae02_7 : decode cJ0_isLatin1_aae02 7 = .ok (.getfield 15, 3) := by decide +kernel
theorem dJ0_isLatin1_aae02_10 : decode cJ0_isLatin1_aae02 10 = .ok (.ifCond .ne 7, 3) := by decide +kernel
theorem dJ0_isLatin1_aae02_13 : decode cJ0_isLatin1_aae02 13 = .ok (.iconst 1, 1) := by decide +kernel
theorem dJ0_isLatin1_aae02_14 : decode cJ0_isLatin1_aae02 14 = .ok (.goto 4, 3) := by decide +kernel
theorem dJ0_isLatin1_aae02_17 : decode cJ0_isLatin1_aae02 17 = .ok (.iconst 0, 1) := by decide +kernel
theorem dJ0_isLatin1_aae02_18 : decode cJ0_isLatin1_aae02 18 = .ok (.ireturn, 1) := by decide +kernel
theorem dJ0_checkIndex_df160_0 : decode cJ0_checkIndex_df160 0 = .ok (.iload_n 0, 1) := by decide +kernel
theorem dJ0_checkIndex_df160_1 : decode cJ0_checkIndex_df160 1 = .ok (.iload_n 1, 1) := by decide +kernel
theorem dJ0_checkIndex_df160_2 : decode cJ0_checkIndex_df160 2 = .ok (.getstatic 1053, 3) := by decide +kernel
theorem dJ0_checkIndex_df160_5 : decode cJ0_checkIndex_df160 5 = .ok (.invokestatic 1059, 3) := by decide +kernel
theorem dJ0_checkIndex_df160_8 : decode cJ0_checkIndex_df160 8 = .ok (.pop, 1) := by decide +kernel
theorem dJ0_checkIndex_df160_9 : decode cJ0_checkIndex_df160 9 = .ok (.return_, 1) := by decide +kernel
theorem dJ1_charAt_3b067_0 : decode cJ1_charAt_3b067 0 = .ok (.iload_n 1, 1) := by decide +kernel
theorem dJ1_charAt_3b067_1 : decode cJ1_charAt_3b067 1 = .ok (.aload_n 0, 1) := by decide +kernel
theorem dJ1_charAt_3b067_2 : decode cJ1_charAt_3b067 2 = .ok (.arraylength, 1) := by decide +kernel
theorem dJ1_charAt_3b067_3 : decode cJ1_charAt_3b067 3 = .ok (.invokestatic 9, 3) := by decide +kernel
theorem dJ1_charAt_3b067_6 : decode cJ1_charAt_3b067 6 = .ok (.aload_n 0, 1) := by decide +kernel
theorem dJ1_charAt_3b067_7 : decode cJ1_charAt_3b067 7 = .ok (.iload_n 1, 1) := by decide +kernel
theorem dJ1_charAt_3b067_8 : decode cJ1_charAt_3b067 8 = .ok (.baload, 1) := by decide +kernel
theorem dJ1_charAt_3b067_9 : decode cJ1_charAt_3b067 9 = .ok (.sipush 255, 3) := by decide +kernel
theorem dJ1_charAt_3b067_12 : decode cJ1_charAt_3b067 12 = .ok (.iand, 1) := by decide +kernel
theorem dJ1_charAt_3b067_13 : decode cJ1_charAt_3b067 13 = .ok (.i2c, 1) := by decide +kernel
theorem dJ1_charAt_3b067_14 : decode cJ1_charAt_3b067 14 = .ok (.ireturn, 1) := by decide +kernel
theorem dJ3_checkIndex_8e157_0 : decode cJ3_checkIndex_8e157 0 = .ok (.iload_n 0, 1) := by decide +kernel
theorem dJ3_checkIndex_8e157_1 : decode cJ3_checkIndex_8e157 1 = .ok (.ifCond .lt 8, 3) := by decide +kernel
theorem dJ3_checkIndex_8e157_4 : decode cJ3_checkIndex_8e157 4 = .ok (.iload_n 0, 1) := by decide +kernel
theorem dJ3_checkIndex_8e157_5 : decode cJ3_checkIndex_8e157 5 = .ok (.iload_n 1, 1) := by decide +kernel
theorem dJ3_checkIndex_8e157_6 : decode cJ3_checkIndex_8e157 6 = .ok (.if_icmp .lt 10, 3) := by decide +kernel
theorem dJ3_checkIndex_8e157_9 : decode cJ3_checkIndex_8e157 9 = .ok (.aload_n 2, 1) := by decide +kernel
theorem dJ3_checkIndex_8e157_10 : decode cJ3_checkIndex_8e157 10 = .ok (.iload_n 0, 1) := by decide +kernel
theorem dJ3_checkIndex_8e157_11 : decode cJ3_checkIndex_8e157 11 = .ok (.iload_n 1, 1) := by decide +kernel
theorem dJ3_checkIndex_8e157_12 : decode cJ3_checkIndex_8e157 12 = .ok (.invokestatic 95, 3) := by decide +kernel
theorem dJ3_checkIndex_8e157_15 : decode cJ3_checkIndex_8e157 15 = .ok (.athrow, 1) := by decide +kernel
theorem dJ3_checkIndex_8e157_16 : decode cJ3_checkIndex_8e157 16 = .ok (.iload_n 0, 1) := by decide +kernel
theorem dJ3_checkIndex_8e157_17 : decode cJ3_checkIndex_8e157 17 = .ok (.ireturn, 1) := by decide +kernel
def chS (i j : Nat) : Int32 := ((((bytS.getD i []).getD j 0) &&& 255).toUInt32 % 65536).toInt32
theorem ls_ok : ∀ i, i < 5 → lenS.getD i 0 < 2 ^ 31 := by decide
theorem chS_nar (i j : Nat) : narrow .char (.int (chS i j)) = .int (chS i j) := pk_nc _
section ST
variable {p : Program} {l : Launch} {e : Env} {R : Room} {s : State} {m : MethodId} {args : Array Value} {below : List Frame} {meth : Method} {c : Code} {H : Heap} {locs : List Loc} {cells slots : Nat} {Q : State → Prop}
variable {G : GT} {own : String} {cc : ByteArray} {nL : Nat} {ret : Option FieldType} {A : Nat → Prop} {ws wo : va_W} {pc a : Nat} {ls : Array Slot} {rest : List Value}
variable {idx : Nat} {y : MethodName} {c2 : ByteArray} {n2 n d2 : Nat} {rt : FieldType} {As : List Value} {b : Nat} {r : Int32}
theorem r_ret {v : Int32} {ty : FieldType} (X : CX G A own cc nL (some ty) p s m args meth c) (hP : va_P G.1 vwCl ws H) (hD : va_D A ws) (hS : va_S A s.heap H locs) (hv : narrow ty (.int v) = .int v) (hdg : decode cc pc = .ok (.ireturn, 1)) : W p l e R s m args below meth c H locs cells slots (MQ below (QI G A v ws) args s cells slots A) (F0 m pc ls [.int v]) :=
  W.zret X.hx X.hb X.hr hv (fun t ht hW => ⟨⟨v, (), rfl, rfl, by rw [ht]; exact hP, hD⟩, hS.F ht⟩) hS.2.2 hdg X.hlk
/-- a call on a text constant -/
theorem r_cvS (X : CX G A own cc nL ret p s m args meth c) (K : SV own idx y c2 n2 (some rt) n) (hy : y.cls = "java/lang/String") {i : Nat} (hi : i < 5) (hM : CI l G y c2 n2 rt d2 (.ref (G.2.2.1 i) :: As) [] r []) (hP : va_P G.1 vwCl ws H) (hD : va_D A ws) (hS : va_S A s.heap H locs) (hA : ∀ q : Nat, s.heap.size ≤ q → A q)
    (hnn : As.length = n) (hls : ls.size = nL) (hW : 2 * (F0 m pc ls (As.reverse ++ .ref (G.2.2.1 i) :: rest)).monitorRoom + (rest.map fun v => v.category).sum ≤ 8) (hR : d2 + 1 ≤ R.frames ∧ 8 + (n2 + 11) + 60 * d2 ≤ R.locals) (hf : cells ≤ R.cells ∧ slots ≤ R.slots) (hdg : decode cc pc = .ok (.invokevirtual idx, 3))
    (kk : ∀ (H1 : Heap) (locs1 : List Loc), va_P G.1 vwCl ws H1 → va_D A ws → va_S A s.heap H1 locs1 → W p l e R s m args below meth c H1 locs1 cells slots Q (F0 m (pc + 3) ls (.int r :: rest))) : W p l e R s m args below meth c H locs cells slots Q (F0 m pc ls (As.reverse ++ .ref (G.2.2.1 i) :: rest)) := by
  have hp := preS_of (av := .ref (G.2.2.1 i) :: As) X (hP.sub (ws' := []) [] rfl) (hD.sub (ws' := []) [] rfl rfl) hS (va_free (wc := []) hD hS hA [] rfl)
  have hrc := vk_recv X.hSX.1 hi hS
  exact r_afi (As := rest) (va_runV (C := y.cls) (As := As) (rest := rest) X.fix (hM H.size) ⟨SB.cb X K.1 hR, X.hts _ K.2.1, X.hts _ K.2.2⟩ ⟨hp.1, by rw [hy]; exact hrc, hp.2⟩ rfl hnn hls rfl hW hdg hf) hP hD hS hA [] rfl rfl rfl (by cases ws <;> rfl) kk
theorem r_cv0 (X : CX G A own cc nL ret p s m args meth c) (K : SS own idx y c2 n2 none n) (hM : CV l G y c2 n2 d2 As [] []) (hP : va_P G.1 vwCl ws H) (hD : va_D A ws) (hS : va_S A s.heap H locs) (hA : ∀ q : Nat, s.heap.size ≤ q → A q)
    (hnn : As.length = n) (hls : ls.size = nL) (hW : 2 * (F0 m pc ls (As.reverse ++ rest)).monitorRoom + (rest.map fun v => v.category).sum ≤ 8) (hR : d2 + 1 ≤ R.frames ∧ 8 + (n2 + 11) + 60 * d2 ≤ R.locals) (hf : cells ≤ R.cells ∧ slots ≤ R.slots) (hdg : decode cc pc = .ok (.invokestatic idx, 3))
    (kk : ∀ (H1 : Heap) (locs1 : List Loc), va_P G.1 vwCl ws H1 → va_D A ws → va_S A s.heap H1 locs1 → W p l e R s m args below meth c H1 locs1 cells slots Q (F0 m (pc + 3) ls rest)) : W p l e R s m args below meth c H locs cells slots Q (F0 m pc ls (As.reverse ++ rest)) :=
  r_csv X K hM hP hD hS hA [] rfl rfl rfl (by cases ws <;> rfl) hnn hls hW hR hf hdg kk
end ST
theorem c_J0_coder_7d493 (l : Launch) (G : GT) (i : Nat) (hi : i < 5) : CI l G yJ0_coder_7d493 cJ0_coder_7d493 1 .byte 1 [.ref (G.2.2.1 i)] [] 0 [] := by
  refine CI.of (by decide) (Nat.le_of_ble_eq_true rfl) ?_
  intro p e s m args below meth c A X hA hP hD hS ls hl
  have hl : lv_has ls 1 [(0, .ref (G.2.2.1 i))] := hl
  refine va_gets X.hx X.hb X.hSX.2.1 hS X.hown (X.hts _ tw_48) (fun _ h => h) dJ0_coder_7d493_0 ?_
  refine lv_if_eq (tgt := 13) X.hx X.hb dJ0_coder_7d493_3 (by decide) (fun hc => absurd hc (by decide)) (fun hc => ?_)
  refine lv_aload_n X.hx X.hb dJ0_coder_7d493_6 rfl (lv_at hl 0 rfl) ?_
  refine vk_getf X.hx X.hb (X.hSX.1.1 i hi).2.1 hS X.hown (X.hts _ tw_1930) (fun _ h => h) dJ0_coder_7d493_7 ?_
  refine lv_goto (tgt := 14) X.hx X.hb dJ0_coder_7d493_10 (by decide) ?_
  exact r_ret X hP hD hS (by decide) dJ0_coder_7d493_14
theorem c_J0_isLatin1_aae02 (l : Launch) (G : GT) (i : Nat) (hi : i < 5) : CI l G yJ0_isLatin1_aae02 cJ0_isLatin1_aae02 1 .boolean 1 [.ref (G.2.2.1 i)] [] 1 [] := by
  refine CI.of (by decide) (Nat.le_of_ble_eq_true rfl) ?_
  intro p e s m args below meth c A X hA hP hD hS ls hl
  have hl : lv_has ls 1 [(0, .ref (G.2.2.1 i))] := hl
  refine va_gets X.hx X.hb X.hSX.2.1 hS X.hown (X.hts _ tw_48) (fun _ h => h) dJ0_isLatin1_aae02_0 ?_
  refine lv_if_eq (tgt := 17) X.hx X.hb dJ0_isLatin1_aae02_3 (by decide) (fun hc => absurd hc (by decide)) (fun hc => ?_)
  refine lv_aload_n X.hx X.hb dJ0_isLatin1_aae02_6 rfl (lv_at hl 0 rfl) ?_
  refine vk_getf X.hx X.hb (X.hSX.1.1 i hi).2.1 hS X.hown (X.hts _ tw_1930) (fun _ h => h) dJ0_isLatin1_aae02_7 ?_
  refine lv_if_ne (tgt := 17) X.hx X.hb dJ0_isLatin1_aae02_10 (by decide) (fun hc => absurd rfl hc) (fun hc => ?_)
  refine lv_iconst (v := 1) X.hx X.hb dJ0_isLatin1_aae02_13 (by decide) ?_
  refine lv_goto (tgt := 18) X.hx X.hb dJ0_isLatin1_aae02_14 (by decide) ?_
  exact r_ret X hP hD hS (by decide) dJ0_isLatin1_aae02_18
theorem st_shr {n : Nat} (h : n < 2 ^ 31) : nI n >>> ((0 : Int32) &&& 31) = nI n := by
  rw [pk_shrN h ((0 : Int32) &&& 31) 0 (by decide)]; simp
theorem c_J0_length_8abf5 (l : Launch) (G : GT) (i : Nat) (hi : i < 5) : CI l G yJ0_length_8abf5 cJ0_length_8abf5 1 .int 2 [.ref (G.2.2.1 i)] [] (nI (lenS.getD i 0)) [] := by
  refine CI.of (by decide) (Nat.le_of_ble_eq_true rfl) ?_
  intro p e s m args below meth c A X hA hP hD hS ls hl
  have hl : lv_has ls 1 [(0, .ref (G.2.2.1 i))] := hl
  refine lv_aload_n X.hx X.hb dJ0_length_8abf5_0 rfl (lv_at hl 0 rfl) ?_
  refine vk_getf X.hx X.hb (X.hSX.1.1 i hi).2.2.1 hS X.hown (X.hts _ tw_1929) (fun _ h => h) dJ0_length_8abf5_1 ?_
  refine va_tlen X.hx X.hb (X.hSX.1.1 i hi).2.2.2 hS (v := nI (lenS.getD i 0)) rfl dJ0_length_8abf5_4 ?_
  refine lv_aload_n X.hx X.hb dJ0_length_8abf5_5 rfl (lv_at hl 0 rfl) ?_
  refine r_cvS (As := []) (rest := [.int (nI (lenS.getD i 0))]) X sm_J0_335 rfl hi (c_J0_coder_7d493 l G i hi) hP hD hS hA rfl hl.1 (lv_room (Nat.le_of_ble_eq_true rfl)) ⟨Nat.le_of_ble_eq_true rfl, Nat.le_of_ble_eq_true rfl⟩ ⟨Nat.zero_le _, Nat.zero_le _⟩ dJ0_length_8abf5_6 (fun H locs hP hD hS => ?_)
  refine lv_ishr X.hx X.hb dJ0_length_8abf5_9 ?_
  rw [st_shr (ls_ok i hi)]
  exact r_iret X hP hD hS dJ0_length_8abf5_10
theorem c_J3_checkIndex_8e157 (l : Launch) (G : GT) (k n : Nat) (q : Option Nat) (hk : k < n) (hn : n < 2 ^ 31) : CI l G yJ3_checkIndex_8e157 cJ3_checkIndex_8e157 3 .int 1 [.int (nI k), .int (nI n), va_rf q] [] (nI k) [] := by
  refine CI.of (by decide) (by cases q <;> exact Nat.le_of_ble_eq_true rfl) ?_
  intro p e s m args below meth c A X hA hP hD hS ls hl
  have hl : lv_has ls 3 [(0, .int (nI k)), (1, .int (nI n)), (2, va_rf q)] := by cases q <;> exact hl
  refine lv_iload_n X.hx X.hb dJ3_checkIndex_8e157_0 rfl (lv_at hl 0 rfl) ?_
  refine lv_if_lt (tgt := 9) X.hx X.hb dJ3_checkIndex_8e157_1 (by decide) (fun hc => absurd hc (nI_pos (by omega))) (fun hc => ?_)
  refine lv_iload_n X.hx X.hb dJ3_checkIndex_8e157_4 rfl (lv_at hl 0 rfl) ?_
  refine lv_iload_n X.hx X.hb dJ3_checkIndex_8e157_5 rfl (lv_at hl 1 rfl) ?_
  refine lv_icmp_lt (tgt := 16) X.hx X.hb dJ3_checkIndex_8e157_6 (by decide) (fun hc => ?_) (fun hc => absurd (nI_lt hk hn) hc)
  refine lv_iload_n X.hx X.hb dJ3_checkIndex_8e157_16 rfl (lv_at hl 0 rfl) ?_
  exact r_iret X hP hD hS dJ3_checkIndex_8e157_17
theorem c_J0_checkIndex_df160 (l : Launch) (G : GT) (k n : Nat) (hk : k < n) (hn : n < 2 ^ 31) : CV l G yJ0_checkIndex_df160 cJ0_checkIndex_df160 2 2 [.int (nI k), .int (nI n)] [] [] := by
  refine CV.of (by decide) (Nat.le_of_ble_eq_true rfl) ?_
  intro p e s m args below meth c A X hA hP hD hS ls hl
  have hl : lv_has ls 2 [(0, .int (nI k)), (1, .int (nI n))] := hl
  refine lv_iload_n X.hx X.hb dJ0_checkIndex_df160_0 rfl (lv_at hl 0 rfl) ?_
  refine lv_iload_n X.hx X.hb dJ0_checkIndex_df160_1 rfl (lv_at hl 1 rfl) ?_
  obtain ⟨q, hq⟩ : ∃ q : Option Nat, va_Z "jdk/internal/util/Preconditions" "SIOOBE_FORMATTER" "Ljava/util/function/BiFunction;" (va_rf q) A s s.heap := by
    rcases X.hSX.2.2.1 with h | ⟨t, h⟩
    · exact ⟨none, h⟩
    · exact ⟨some t, h⟩
  refine va_gets X.hx X.hb hq hS X.hown (X.hts _ tw_64) (fun _ h => h) dJ0_checkIndex_df160_2 ?_
  refine r_cs0 (As := [.int (nI k), .int (nI n), va_rf q]) (rest := []) X sm_J0_1059 (c_J3_checkIndex_8e157 l G k n q hk hn) hP hD hS hA rfl hl.1 (lv_room (Nat.le_of_ble_eq_true rfl)) ⟨Nat.le_of_ble_eq_true rfl, Nat.le_of_ble_eq_true rfl⟩ ⟨Nat.zero_le _, Nat.zero_le _⟩ dJ0_checkIndex_df160_5 (fun H locs hP hD hS => ?_)
  refine lv_pop X.hx X.hb dJ0_checkIndex_df160_8 rfl ?_
  exact r_vret X hP hD hS dJ0_checkIndex_df160_9
theorem c_J1_charAt_3b067 (l : Launch) (G : GT) (i k : Nat) (hi : i < 5) (hk : k < lenS.getD i 0) : CI l G yJ1_charAt_3b067 cJ1_charAt_3b067 2 .char 3 [.ref (G.2.2.2 i), .int (nI k)] [] (chS i k) [] := by
  refine CI.of (by decide) (Nat.le_of_ble_eq_true rfl) ?_
  intro p e s m args below meth c A X hA hP hD hS ls hl
  have hl : lv_has ls 2 [(0, .ref (G.2.2.2 i)), (1, .int (nI k))] := hl
  have hL := ls_ok i hi
  refine lv_iload_n X.hx X.hb dJ1_charAt_3b067_0 rfl (lv_at hl 1 rfl) ?_
  refine lv_aload_n X.hx X.hb dJ1_charAt_3b067_1 rfl (lv_at hl 0 rfl) ?_
  refine va_tlen X.hx X.hb (X.hSX.1.1 i hi).2.2.2 hS (v := nI (lenS.getD i 0)) rfl dJ1_charAt_3b067_2 ?_
  refine r_cv0 (As := [.int (nI k), .int (nI (lenS.getD i 0))]) (rest := []) X sm_J1_9 (c_J0_checkIndex_df160 l G k _ hk hL) hP hD hS hA rfl hl.1 (lv_room (Nat.le_of_ble_eq_true rfl)) ⟨Nat.le_of_ble_eq_true rfl, Nat.le_of_ble_eq_true rfl⟩ ⟨Nat.zero_le _, Nat.zero_le _⟩ dJ1_charAt_3b067_3 (fun H locs hP hD hS => ?_)
  refine lv_aload_n X.hx X.hb dJ1_charAt_3b067_6 rfl (lv_at hl 0 rfl) ?_
  refine lv_iload_n X.hx X.hb dJ1_charAt_3b067_7 rfl (lv_at hl 1 rfl) ?_
  refine va_tb X.hx X.hb (X.hSX.1.1 i hi).2.2.2 hS (vp_in_nI hk hL) (v := .int ((bytS.getD i []).getD k 0)) (by rw [nI_clamp (by omega)]) dJ1_charAt_3b067_8 ?_
  refine lv_sipush (v := 255) X.hx X.hb dJ1_charAt_3b067_9 (by decide) ?_
  refine lv_iand X.hx X.hb dJ1_charAt_3b067_12 ?_
  refine lv_i2c (v := chS i k) X.hx X.hb dJ1_charAt_3b067_13 rfl ?_
  exact r_ret X hP hD hS (chS_nar i k) dJ1_charAt_3b067_14
theorem c_J0_charAt_5068e (l : Launch) (G : GT) (i k : Nat) (hi : i < 5) (hk : k < lenS.getD i 0) : CI l G yJ0_charAt_5068e cJ0_charAt_5068e 2 .char 4 [.ref (G.2.2.1 i), .int (nI k)] [] (chS i k) [] := by
  refine CI.of (by decide) (Nat.le_of_ble_eq_true rfl) ?_
  intro p e s m args below meth c A X hA hP hD hS ls hl
  have hl : lv_has ls 2 [(0, .ref (G.2.2.1 i)), (1, .int (nI k))] := hl
  refine lv_aload_n X.hx X.hb dJ0_charAt_5068e_0 rfl (lv_at hl 0 rfl) ?_
  refine r_cvS (As := []) (rest := []) X sm_J0_492 rfl hi (c_J0_isLatin1_aae02 l G i hi) hP hD hS hA rfl hl.1 (lv_room (Nat.le_of_ble_eq_true rfl)) ⟨Nat.le_of_ble_eq_true rfl, Nat.le_of_ble_eq_true rfl⟩ ⟨Nat.zero_le _, Nat.zero_le _⟩ dJ0_charAt_5068e_1 (fun H locs hP hD hS => ?_)
  refine lv_if_eq (tgt := 16) X.hx X.hb dJ0_charAt_5068e_4 (by decide) (fun hc => absurd hc (by decide)) (fun hc => ?_)
  refine lv_aload_n X.hx X.hb dJ0_charAt_5068e_7 rfl (lv_at hl 0 rfl) ?_
  refine vk_getf X.hx X.hb (X.hSX.1.1 i hi).2.2.1 hS X.hown (X.hts _ tw_1929) (fun _ h => h) dJ0_charAt_5068e_8 ?_
  refine lv_iload_n X.hx X.hb dJ0_charAt_5068e_11 rfl (lv_at hl 1 rfl) ?_
  refine r_cs0 (As := [.ref (G.2.2.2 i), .int (nI k)]) (rest := []) X sm_J0_495 (c_J1_charAt_3b067 l G i k hi hk) hP hD hS hA rfl hl.1 (lv_room (Nat.le_of_ble_eq_true rfl)) ⟨Nat.le_of_ble_eq_true rfl, Nat.le_of_ble_eq_true rfl⟩ ⟨Nat.zero_le _, Nat.zero_le _⟩ dJ0_charAt_5068e_12 (fun H locs hP hD hS => ?_)
  exact r_ret X hP hD hS (chS_nar i k) dJ0_charAt_5068e_15
section ST2
variable {p : Program} {l : Launch} {e : Env} {R : Room} {s : State} {m : MethodId} {args : Array Value} {below : List Frame} {meth : Method} {c : Code} {H : Heap} {locs : List Loc} {cells slots : Nat} {Q : State → Prop}
variable {G : GT} {own : String} {cc : ByteArray} {nL : Nat} {ret : Option FieldType} {A : Nat → Prop} {ws : va_W} {pc : Nat} {ls : Array Slot} {rest : List Value} {idx : Nat}
theorem r_sch (X : CX G A own cc nL ret p s m args meth c) (K : SV own idx yJ0_charAt_5068e cJ0_charAt_5068e 2 (some .char) 1) {i : Nat} (hi : i < 5) {k : Int32} (hin : vp_in k (lenS.getD i 0)) (hP : va_P G.1 vwCl ws H) (hD : va_D A ws) (hS : va_S A s.heap H locs) (hA : ∀ q : Nat, s.heap.size ≤ q → A q)
    (hls : ls.size = nL) (hW : 2 * (F0 m pc ls (([.int k] : List Value).reverse ++ .ref (G.2.2.1 i) :: rest)).monitorRoom + (rest.map fun v => v.category).sum ≤ 8) (hR : 4 + 1 ≤ R.frames ∧ 8 + (2 + 11) + 60 * 4 ≤ R.locals) (hf : cells ≤ R.cells ∧ slots ≤ R.slots) (hdg : decode cc pc = .ok (.invokevirtual idx, 3))
    (kk : ∀ (H1 : Heap) (locs1 : List Loc), va_P G.1 vwCl ws H1 → va_D A ws → va_S A s.heap H1 locs1 → W p l e R s m args below meth c H1 locs1 cells slots Q (F0 m (pc + 3) ls (.int (chS i k.toNatClampNeg) :: rest))) : W p l e R s m args below meth c H locs cells slots Q (F0 m pc ls (.int k :: .ref (G.2.2.1 i) :: rest)) := by
  obtain ⟨j, hj, rfl⟩ := vp_in_of hin (ls_ok i hi)
  have hL := ls_ok i hi
  rw [nI_clamp (by omega)] at kk
  exact r_cvS (As := [.int (nI j)]) (rest := rest) X K rfl hi (c_J0_charAt_5068e l G i j hi hj) hP hD hS hA rfl hls hW hR hf hdg kk
end ST2
