/-! LAW: its loop -/
theorem and63 (x : Int32) : ∃ k, k < 64 ∧ x &&& 63 = nI k := by
  have h63 : ∀ k, k < 32 → tb 63 k = true → k < 6 := by decide +kernel
  obtain ⟨m, hm, em⟩ := bit_m (x := x &&& 63) (P := 6) (by omega) (fun k hk h => by
    rw [tb_and, Bool.and_eq_true] at h
    exact h63 k hk h.2)
  exact ⟨m, hm, em⟩
theorem WO.S {G : GT} {u : Nat → Nat → Nat} {uY : Nat → Nat} {qo : Nat} {A : Nat → Prop} {s : State} {H : Heap} {locs : List Loc} (h : WO G u uY qo A s H locs) : va_S A s.heap H locs := by
  obtain ⟨aU, iX, sT, iT, jT, iC, tC, sC, iR, iC2, tC2, sC2, iM, sM, iM2, sM2, iU, sU, iE, sE, sP, iP, sB, iB, iS, sS, iS2, sS2, iI, iC3, tC3, sC3, iM3, sM3, iS3, sS3, iI2, iC4, tC4, sC4, iM4, sM4, iS4, sS4, iY, sY, tY, jY, o, hR, hP, hD, hS⟩ := h
  exact hS
section
variable {p : Program} {l : Launch} {e : Env} {s : State} {m : MethodId} {below : List Frame} {meth : Method} {c : Code} {H : Heap} {locs : List Loc} {cells slots : Nat} {Q : State → Prop} {G : GT} {A : Nat → Prop} {b L : Nat} {xs : Nat → Int32} {ls : Array Slot} {u : Nat → Nat → Nat} {uY : Nat → Nat} {qo j : Nat}

set_option maxHeartbeats 4000000 in
theorem lw_step (C : LC G A p s m meth c b L xs) (hj : 6 * j + 6 ≤ L) (hf : cells + 1 ≤ room_1.cells ∧ slots + 6 ≤ room_1.slots) (hE : EX A s s.heap) (hfl : l.stackTraces = false) (hl : lv_has ls 7 [(4, .int (nI (6 * j))), (3, .ref qo), (2, .ref (uY 0)), (1, .ref (u 0 0)), (0, .ref b)]) (hw : WO G u uY qo A s H locs) (kk : ∀ (H : Heap) (locs : List Loc) (ls : Array Slot), lv_has ls 7 [(4, .int (nI (6 * j))), (3, .ref qo), (2, .ref (uY 0)), (1, .ref (u 0 0)), (0, .ref b)] → WO G u uY qo A s H locs → W p l e room_1 s m #[Value.ref b] below meth c H locs (cells + 1) (slots + 6) Q (F0 m 1239 ls [])) : W p l e room_1 s m #[Value.ref b] below meth c H locs cells slots Q (F0 m 33 ls []) := by
  have X := C.1
  have hf2 : cells ≤ room_1.cells ∧ slots ≤ room_1.slots := ⟨Nat.le_trans (Nat.le_add_right _ _) hf.1, Nat.le_trans (Nat.le_add_right _ _) hf.2⟩
  have k2 : ∀ (H : Heap) (locs : List Loc), WO G u uY qo A s H locs → W p l e room_1 s m #[Value.ref b] below meth c H locs cells slots Q (F0 m 1239 ls []) := fun H locs hw => W.widen (k := cells + 1) (n := slots + 6) (Nat.le_add_right _ _) (Nat.le_add_right _ _) (kk H locs ls hl hw)
  refine r_scr0 C hw.S hl (by omega) dL_law_33 dL_law_34 dL_law_36 ?_
  refine lv_bipush (v := 63) X.hx X.hb dL_law_37 (by decide) ?_
  refine lv_iand X.hx X.hb dL_law_39 ?_
  obtain ⟨k, hk, ek⟩ := and63 (xs (6 * j))
  rw [ek]
  by_cases h36 : k < 36
  · match k, h36 with
    | 0, _ => exact lv_tableIn (off := 160) (tgt := 200) X.hx X.hb dL_law_40 (by decide) (by decide) (by decide) (by decide) (k_feed C hj hf2 hl hw k2)
    | 1, _ => exact lv_tableIn (off := 233) (tgt := 273) X.hx X.hb dL_law_40 (by decide) (by decide) (by decide) (by decide) (k_end C hj hf2 hl hw k2)
    | 2, _ => exact lv_tableIn (off := 258) (tgt := 298) X.hx X.hb dL_law_40 (by decide) (by decide) (by decide) (by decide) (k_county C hj hf2 hl hw k2)
    | 3, _ => exact lv_tableIn (off := 271) (tgt := 311) X.hx X.hb dL_law_40 (by decide) (by decide) (by decide) (by decide) (k_fault C hj hf2 hl hw k2)
    | 4, _ => exact lv_tableIn (off := 284) (tgt := 324) X.hx X.hb dL_law_40 (by decide) (by decide) (by decide) (by decide) (k_person C hj hf hE hfl hl hw kk)
    | 5, _ => exact lv_tableIn (off := 352) (tgt := 392) X.hx X.hb dL_law_40 (by decide) (by decide) (by decide) (by decide) (k_good C hj hf2 hl hw k2)
    | 6, _ => exact lv_tableIn (off := 401) (tgt := 441) X.hx X.hb dL_law_40 (by decide) (by decide) (by decide) (by decide) (k_deals C hj hf2 hl hw k2)
    | 7, _ => exact lv_tableIn (off := 438) (tgt := 478) X.hx X.hb dL_law_40 (by decide) (by decide) (by decide) (by decide) (k_now C hj hf2 hl hw k2)
    | 8, _ => exact lv_tableIn (off := 463) (tgt := 503) X.hx X.hb dL_law_40 (by decide) (by decide) (by decide) (by decide) (k_buy C hj hf2 hl hw k2)
    | 9, _ => exact lv_tableIn (off := 512) (tgt := 552) X.hx X.hb dL_law_40 (by decide) (by decide) (by decide) (by decide) (k_nod C hj hf2 hl hw k2)
    | 10, _ => exact lv_tableIn (off := 549) (tgt := 589) X.hx X.hb dL_law_40 (by decide) (by decide) (by decide) (by decide) (k_veil C hj hf2 hl hw k2)
    | 11, _ => exact lv_tableIn (off := 574) (tgt := 614) X.hx X.hb dL_law_40 (by decide) (by decide) (by decide) (by decide) (k_tell C hj hf2 hl hw k2)
    | 12, _ => exact lv_tableIn (off := 623) (tgt := 663) X.hx X.hb dL_law_40 (by decide) (by decide) (by decide) (by decide) (k_days C hj hf2 hl hw k2)
    | 13, _ => exact lv_tableIn (off := 648) (tgt := 688) X.hx X.hb dL_law_40 (by decide) (by decide) (by decide) (by decide) (k_undo C hj hf2 hl hw k2)
    | 14, _ => exact lv_tableIn (off := 661) (tgt := 701) X.hx X.hb dL_law_40 (by decide) (by decide) (by decide) (by decide) (k_most C hj hf2 hl hw k2)
    | 15, _ => exact lv_tableIn (off := 686) (tgt := 726) X.hx X.hb dL_law_40 (by decide) (by decide) (by decide) (by decide) (k_who C hj hf2 hl hw k2)
    | 16, _ => exact lv_tableIn (off := 699) (tgt := 739) X.hx X.hb dL_law_40 (by decide) (by decide) (by decide) (by decide) (k_ask C hj hf2 hl hw k2)
    | 17, _ => exact lv_tableIn (off := 712) (tgt := 752) X.hx X.hb dL_law_40 (by decide) (by decide) (by decide) (by decide) (k_serve C hj hf2 hl hw k2)
    | 18, _ => exact lv_tableIn (off := 737) (tgt := 777) X.hx X.hb dL_law_40 (by decide) (by decide) (by decide) (by decide) (k_serving C hj hf2 hl hw k2)
    | 19, _ => exact lv_tableIn (off := 750) (tgt := 790) X.hx X.hb dL_law_40 (by decide) (by decide) (by decide) (by decide) (k_chain C hj hf2 hl hw k2)
    | 20, _ => exact lv_tableIn (off := 787) (tgt := 827) X.hx X.hb dL_law_40 (by decide) (by decide) (by decide) (by decide) (k_chainAt C hj hf2 hl hw k2)
    | 21, _ => exact lv_tableIn (off := 812) (tgt := 852) X.hx X.hb dL_law_40 (by decide) (by decide) (by decide) (by decide) (k_out C hj hf2 hl hw k2)
    | 22, _ => exact lv_tableIn (off := 837) (tgt := 877) X.hx X.hb dL_law_40 (by decide) (by decide) (by decide) (by decide) (k_apart C hj hf2 hl hw k2)
    | 23, _ => exact lv_tableIn (off := 874) (tgt := 914) X.hx X.hb dL_law_40 (by decide) (by decide) (by decide) (by decide) (k_parting C hj hf2 hl hw k2)
    | 24, _ => exact lv_tableIn (off := 887) (tgt := 927) X.hx X.hb dL_law_40 (by decide) (by decide) (by decide) (by decide) (k_recluse C hj hf2 hl hw k2)
    | 25, _ => exact lv_tableIn (off := 900) (tgt := 940) X.hx X.hb dL_law_40 (by decide) (by decide) (by decide) (by decide) (k_face C hj hf2 hl hw k2)
    | 26, _ => exact lv_tableIn (off := 925) (tgt := 965) X.hx X.hb dL_law_40 (by decide) (by decide) (by decide) (by decide) (k_byteAt C hj hf2 hl hw k2)
    | 27, _ => exact lv_tableIn (off := 950) (tgt := 990) X.hx X.hb dL_law_40 (by decide) (by decide) (by decide) (by decide) (k_drawn C hj hf2 hl hw k2)
    | 28, _ => exact lv_tableIn (off := 987) (tgt := 1027) X.hx X.hb dL_law_40 (by decide) (by decide) (by decide) (by decide) (k_odds C hj hf2 hl hw k2)
    | 29, _ => exact lv_tableIn (off := 1036) (tgt := 1076) X.hx X.hb dL_law_40 (by decide) (by decide) (by decide) (by decide) (k_book C hj hf2 hl hw k2)
    | 30, _ => exact lv_tableIn (off := 1061) (tgt := 1101) X.hx X.hb dL_law_40 (by decide) (by decide) (by decide) (by decide) (k_told C hj hf2 hl hw k2)
    | 31, _ => exact lv_tableIn (off := 1086) (tgt := 1126) X.hx X.hb dL_law_40 (by decide) (by decide) (by decide) (by decide) (k_sentence C hj hf2 hl hw k2)
    | 32, _ => exact lv_tableIn (off := 1099) (tgt := 1139) X.hx X.hb dL_law_40 (by decide) (by decide) (by decide) (by decide) (k_said C hj hf2 hl hw k2)
    | 33, _ => exact lv_tableIn (off := 1124) (tgt := 1164) X.hx X.hb dL_law_40 (by decide) (by decide) (by decide) (by decide) (k_image C hj hf2 hl hw k2)
    | 34, _ => exact lv_tableIn (off := 1149) (tgt := 1189) X.hx X.hb dL_law_40 (by decide) (by decide) (by decide) (by decide) (k_restore C hj hf2 hl hw k2)
    | 35, _ => exact lv_tableIn (off := 1174) (tgt := 1214) X.hx X.hb dL_law_40 (by decide) (by decide) (by decide) (by decide) (k_count C hj hf2 hl hw k2)
    | n + 36, h => exact absurd h (by omega)
  · exact lv_tableOut (tgt := 1239) X.hx X.hb dL_law_40 (Or.inr (by rw [nI_toInt (by omega)]; omega)) (by decide) (k2 H locs hw)
end
theorem lim_lt {L j : Nat} (hL : L ≤ 3072) (hj : 6 * j ≤ L) : (Int32.ofNat L - 6 < nI (6 * j)) ↔ L < 6 * j + 6 := by
  rw [Int32.lt_iff_toInt_lt, show Int32.ofNat L = nI L from rfl, L6, pk_sub_toInt (by omega) (by omega), nI_toInt (by omega)]
  omega
section
variable {p : Program} {l : Launch} {e : Env} {s : State} {m : MethodId} {below : List Frame} {meth : Method} {c : Code} {G : GT} {b L : Nat} {xs : Nat → Int32} {u : Nat → Nat → Nat} {uY : Nat → Nat} {qo : Nat}
set_option maxHeartbeats 4000000 in
theorem lw_loop (C : LC G (fun q : Nat => s.heap.size ≤ q) p s m meth c b L xs) (hE : EX (fun q : Nat => s.heap.size ≤ q) s s.heap) (hfl : l.stackTraces = false) : ∀ (r j : Nat) (H : Heap) (locs : List Loc) (ls : Array Slot), L < 6 * (j + r) → 6 * j ≤ L → lv_has ls 7 [(4, .int (nI (6 * j))), (3, .ref qo), (2, .ref (uY 0)), (1, .ref (u 0 0)), (0, .ref b)] → WO G u uY qo (fun q : Nat => s.heap.size ≤ q) s H locs → W p l e room_1 s m #[Value.ref b] below meth c H locs (177 + j) (8823 + 6 * j) (lw_Z below #[Value.ref b] s) (F0 m 23 ls []) := by
  have X := C.1
  obtain ⟨-, hX, hb, hbA, hA, hL⟩ := id C
  intro r
  induction r with
  | zero => intro j H locs ls h1 h2; omega
  | succ r ih =>
    intro j H locs ls h1 h2 hl hw
    have hS := hw.S
    refine lv_iload X.hx X.hb dL_law_23 (lv_at hl 0 rfl) ?_
    refine lv_aload_n X.hx X.hb dL_law_25 rfl (lv_at hl 4 rfl) ?_
    refine va_slen X.hx X.hb hX hb hbA hS dL_law_26 ?_
    refine lv_bipush (v := 6) X.hx X.hb dL_law_27 (by decide) ?_
    refine lv_isub X.hx X.hb dL_law_29 ?_
    refine lv_icmp_gt (tgt := 1245) X.hx X.hb dL_law_30 (by decide) (fun hc => ?_) (fun hc => ?_)
    · refine lv_iconst (v := 1) X.hx X.hb dL_law_1245 (by decide) ?_
      refine va_forget (fun q hq => hS.2.2 q hq) ?_
      refine W.widen (k := 601024) (n := 7293034) (by omega) (by omega) ?_
      exact lw_ret X.hx X.hb X.hr X.hlk dL_law_1246
    · have hj : 6 * j + 6 ≤ L := Nat.le_of_not_lt (fun h => hc ((lim_lt hL h2).mpr h))
      refine lw_step C hj ⟨show 177 + j + 1 ≤ 601024 by omega, show 8823 + 6 * j + 6 ≤ 7293034 by omega⟩ hE hfl hl hw (fun H locs ls hl hw => ?_)
      refine lv_iinc (v := nI (6 * (j + 1))) (lv' := [(4, .int (nI (6 * (j + 1)))), (3, .ref qo), (2, .ref (uY 0)), (1, .ref (u 0 0)), (0, .ref b)]) X.hx X.hb dL_law_1239 hl (k := 0) rfl (by rw [show Int32.ofInt 6 = nI 6 from rfl, nI_add, show 6 * j + 6 = 6 * (j + 1) by omega]) (by decide) rfl (fun ls hl => ?_)
      refine lv_goto (tgt := 23) X.hx X.hb dL_law_1242 (by decide) ?_
      have h9 := ih (j + 1) H locs ls (by omega) (by omega) hl hw
      rw [show 8823 + 6 * (j + 1) = 8823 + 6 * j + 6 by omega] at h9
      exact h9
end
