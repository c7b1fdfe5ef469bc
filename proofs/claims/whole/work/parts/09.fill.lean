theorem dJ7_fill_53178_0 : decode cJ7_fill_53178 0 = .ok (.iconst 0, 1) := by decide +kernel
theorem dJ7_fill_53178_1 : decode cJ7_fill_53178 1 = .ok (.istore_n 2, 1) := by decide +kernel
theorem dJ7_fill_53178_2 : decode cJ7_fill_53178 2 = .ok (.aload_n 0, 1) := by decide +kernel
theorem dJ7_fill_53178_3 : decode cJ7_fill_53178 3 = .ok (.arraylength, 1) := by decide +kernel
theorem dJ7_fill_53178_4 : decode cJ7_fill_53178 4 = .ok (.istore_n 3, 1) := by decide +kernel
theorem dJ7_fill_53178_5 : decode cJ7_fill_53178 5 = .ok (.iload_n 2, 1) := by decide +kernel
theorem dJ7_fill_53178_6 : decode cJ7_fill_53178 6 = .ok (.iload_n 3, 1) := by decide +kernel
theorem dJ7_fill_53178_7 : decode cJ7_fill_53178 7 = .ok (.if_icmp .ge 13, 3) := by decide +kernel
theorem dJ7_fill_53178_10 : decode cJ7_fill_53178 10 = .ok (.aload_n 0, 1) := by decide +kernel
theorem dJ7_fill_53178_11 : decode cJ7_fill_53178 11 = .ok (.iload_n 2, 1) := by decide +kernel
theorem dJ7_fill_53178_12 : decode cJ7_fill_53178 12 = .ok (.iload_n 1, 1) := by decide +kernel
theorem dJ7_fill_53178_13 : decode cJ7_fill_53178 13 = .ok (.iastore, 1) := by decide +kernel
theorem dJ7_fill_53178_14 : decode cJ7_fill_53178 14 = .ok (.iinc 2 1, 3) := by decide +kernel
theorem dJ7_fill_53178_17 : decode cJ7_fill_53178 17 = .ok (.goto (-12), 3) := by decide +kernel
theorem dJ7_fill_53178_20 : decode cJ7_fill_53178 20 = .ok (.return_, 1) := by decide +kernel
theorem dJ7_fill_d0a16_0 : decode cJ7_fill_d0a16 0 = .ok (.iconst 0, 1) := by decide +kernel
theorem dJ7_fill_d0a16_1 : decode cJ7_fill_d0a16 1 = .ok (.istore_n 3, 1) := by decide +kernel
theorem dJ7_fill_d0a16_2 : decode cJ7_fill_d0a16 2 = .ok (.aload_n 0, 1) := by decide +kernel
theorem dJ7_fill_d0a16_3 : decode cJ7_fill_d0a16 3 = .ok (.arraylength, 1) := by decide +kernel
theorem dJ7_fill_d0a16_4 : decode cJ7_fill_d0a16 4 = .ok (.istore 4, 2) := by decide +kernel
theorem dJ7_fill_d0a16_6 : decode cJ7_fill_d0a16 6 = .ok (.iload_n 3, 1) := by decide +kernel
theorem dJ7_fill_d0a16_7 : decode cJ7_fill_d0a16 7 = .ok (.iload 4, 2) := by decide +kernel
theorem dJ7_fill_d0a16_9 : decode cJ7_fill_d0a16 9 = .ok (.if_icmp .ge 13, 3) := by decide +kernel
theorem dJ7_fill_d0a16_12 : decode cJ7_fill_d0a16 12 = .ok (.aload_n 0, 1) := by decide +kernel
theorem dJ7_fill_d0a16_13 : decode cJ7_fill_d0a16 13 = .ok (.iload_n 3, 1) := by decide +kernel
theorem dJ7_fill_d0a16_14 : decode cJ7_fill_d0a16 14 = .ok (.lload_n 1, 1) := by decide +kernel
theorem dJ7_fill_d0a16_15 : decode cJ7_fill_d0a16 15 = .ok (.lastore, 1) := by decide +kernel
theorem dJ7_fill_d0a16_16 : decode cJ7_fill_d0a16 16 = .ok (.iinc 3 1, 3) := by decide +kernel
theorem dJ7_fill_d0a16_19 : decode cJ7_fill_d0a16 19 = .ok (.goto (-13), 3) := by decide +kernel
theorem dJ7_fill_d0a16_22 : decode cJ7_fill_d0a16 22 = .ok (.return_, 1) := by decide +kernel
theorem fl_i0 (f : Nat → Int32) (v : Int32) : fl_i 0 f v = f := by funext k; simp [fl_i]
theorem fl_is (n : Nat) (f : Nat → Int32) (v : Int32) : upd (fl_i n f v) n v = fl_i (n + 1) f v := by
  funext k
  by_cases h : k = n
  · subst h; rw [pk_us]; simp [fl_i]
  · rw [pk_un h]
    simp only [fl_i]
    by_cases h2 : k < n
    · rw [if_pos h2, if_pos (by omega)]
    · rw [if_neg h2, if_neg (by omega)]
theorem fl_l0 (f : Nat → Int64) (v : Int64) : fl_l 0 f v = f := by funext k; simp [fl_l]
theorem fl_ls (n : Nat) (f : Nat → Int64) (v : Int64) : vp_updL (fl_l n f v) n v = fl_l (n + 1) f v := by
  funext k
  by_cases h : k = n
  · subst h; rw [pk_uLs]; simp [fl_l]
  · rw [pk_uLn h]
    simp only [fl_l]
    by_cases h2 : k < n
    · rw [if_pos h2, if_pos (by omega)]
    · rw [if_neg h2, if_neg (by omega)]
set_option maxHeartbeats 4000000 in
theorem c_fill_i (l : Launch) (G : GT) (q n : Nat) (hn : n < 2 ^ 31) (f : Nat → Int32) (v : Int32) : CV l G yJ7_fill_53178 cJ7_fill_53178 4 1 [.ref q, .int v] [(q, .inl (G.2.1 1, n, .inl f))] [(q, .inl (G.2.1 1, n, .inl (fl_i n f v)))] := by
  refine CV.of (by decide) (Nat.le_of_ble_eq_true rfl) ?_
  intro p e s m args below meth c A X hA hP hD hS ls hl
  have hl : lv_has ls 4 [(0, .ref q), (1, .int v)] := hl
  generalize hQ : MQ below (QV G A [(q, .inl (G.2.1 1, n, .inl (fl_i n f v)))]) args s 0 0 A = QQ
  have loop : ∀ (d j : Nat) (H : Heap) (locs : List Loc) (ls : Array Slot), j + d = n → va_P G.1 vwCl [(q, .inl (G.2.1 1, n, .inl (fl_i j f v)))] H → va_D A [(q, .inl (G.2.1 1, n, .inl (fl_i j f v)))] → va_S A s.heap H locs → lv_has ls 4 [(0, .ref q), (1, .int v), (2, .int (nI j)), (3, .int (nI n))] → W p l e (RM 1) s m args below meth c H locs 0 0 QQ (F0 m 5 ls []) := by
    intro d
    induction d with
    | zero =>
      intro j H locs ls hj hP hD hS hl
      have hj : j = n := by omega
      subst hj
      refine lv_iload_n X.hx X.hb dJ7_fill_53178_5 rfl (lv_at hl 2 rfl) ?_
      refine lv_iload_n X.hx X.hb dJ7_fill_53178_6 rfl (lv_at hl 3 rfl) ?_
      refine lv_icmp_ge (tgt := 20) X.hx X.hb dJ7_fill_53178_7 (by decide) (fun hc => ?_) (fun hc => absurd (nI_le (Nat.le_refl _) hn) hc)
      subst hQ
      exact r_vret X hP hD hS dJ7_fill_53178_20
    | succ d ih =>
      intro j H locs ls hj hP hD hS hl
      refine lv_iload_n X.hx X.hb dJ7_fill_53178_5 rfl (lv_at hl 2 rfl) ?_
      refine lv_iload_n X.hx X.hb dJ7_fill_53178_6 rfl (lv_at hl 3 rfl) ?_
      refine lv_icmp_ge (tgt := 20) X.hx X.hb dJ7_fill_53178_7 (by decide) (fun hc => absurd hc (nI_ge (by omega) hn)) (fun hc => ?_)
      refine lv_aload_n X.hx X.hb dJ7_fill_53178_10 rfl (lv_at hl 0 rfl) ?_
      refine lv_iload_n X.hx X.hb dJ7_fill_53178_11 rfl (lv_at hl 2 rfl) ?_
      refine lv_iload_n X.hx X.hb dJ7_fill_53178_12 rfl (lv_at hl 1 rfl) ?_
      refine r_iast X hP hD hS 0 (f := fl_i j f v) rfl (vp_in_nI (by omega) hn) (wo := [(q, .inl (G.2.1 1, n, .inl (fl_i (j + 1) f v)))]) (by rw [nI_clamp (by omega), fl_is]; rfl) dJ7_fill_53178_13 (fun H locs hP hD hS => ?_)
      refine lv_iinc (v := nI (j + 1)) (lv' := [(2, .int (nI (j + 1))), (0, .ref q), (1, .int v), (3, .int (nI n))]) X.hx X.hb dJ7_fill_53178_14 hl (k := 2) rfl (nI_1 j) (by decide) rfl (fun ls hl => ?_)
      refine lv_goto (tgt := 5) X.hx X.hb dJ7_fill_53178_17 (by decide) ?_
      exact ih (j + 1) H locs ls (by omega) hP hD hS (lv_sub hl [1, 2, 0, 3] rfl)
  refine lv_iconst (v := 0) X.hx X.hb dJ7_fill_53178_0 (by decide) ?_
  refine lv_istore_n (lv' := [(2, .int 0), (0, .ref q), (1, .int v)]) X.hx X.hb dJ7_fill_53178_1 rfl hl (by decide) rfl (fun ls hl => ?_)
  refine lv_aload_n X.hx X.hb dJ7_fill_53178_2 rfl (lv_at hl 1 rfl) ?_
  refine va_alen X.hx X.hb X.hK hP 0 1 rfl rfl (v := nI n) rfl dJ7_fill_53178_3 ?_
  refine lv_istore_n (lv' := [(3, .int (nI n)), (2, .int 0), (0, .ref q), (1, .int v)]) X.hx X.hb dJ7_fill_53178_4 rfl hl (by decide) rfl (fun ls hl => ?_)
  exact loop n 0 _ _ ls (by omega) (by rw [fl_i0]; exact hP) (by rw [fl_i0]; exact hD) hS (lv_sub hl [2, 3, 1, 0] rfl)
set_option maxHeartbeats 4000000 in
theorem c_fill_l (l : Launch) (G : GT) (q n : Nat) (hn : n < 2 ^ 31) (f : Nat → Int64) (v : Int64) : CV l G yJ7_fill_d0a16 cJ7_fill_d0a16 5 1 [.ref q, .long v] [(q, .inl (G.2.1 2, n, .inr (.inl f)))] [(q, .inl (G.2.1 2, n, .inr (.inl (fl_l n f v))))] := by
  refine CV.of (by decide) (Nat.le_of_ble_eq_true rfl) ?_
  intro p e s m args below meth c A X hA hP hD hS ls hl
  have hl : lv_has ls 5 [(0, .ref q), (1, .long v)] := hl
  generalize hQ : MQ below (QV G A [(q, .inl (G.2.1 2, n, .inr (.inl (fl_l n f v))))]) args s 0 0 A = QQ
  have loop : ∀ (d j : Nat) (H : Heap) (locs : List Loc) (ls : Array Slot), j + d = n → va_P G.1 vwCl [(q, .inl (G.2.1 2, n, .inr (.inl (fl_l j f v))))] H → va_D A [(q, .inl (G.2.1 2, n, .inr (.inl (fl_l j f v))))] → va_S A s.heap H locs → lv_has ls 5 [(0, .ref q), (1, .long v), (3, .int (nI j)), (4, .int (nI n))] → W p l e (RM 1) s m args below meth c H locs 0 0 QQ (F0 m 6 ls []) := by
    intro d
    induction d with
    | zero =>
      intro j H locs ls hj hP hD hS hl
      have hj : j = n := by omega
      subst hj
      refine lv_iload_n X.hx X.hb dJ7_fill_d0a16_6 rfl (lv_at hl 2 rfl) ?_
      refine lv_iload X.hx X.hb dJ7_fill_d0a16_7 (lv_at hl 3 rfl) ?_
      refine lv_icmp_ge (tgt := 22) X.hx X.hb dJ7_fill_d0a16_9 (by decide) (fun hc => ?_) (fun hc => absurd (nI_le (Nat.le_refl _) hn) hc)
      subst hQ
      exact r_vret X hP hD hS dJ7_fill_d0a16_22
    | succ d ih =>
      intro j H locs ls hj hP hD hS hl
      refine lv_iload_n X.hx X.hb dJ7_fill_d0a16_6 rfl (lv_at hl 2 rfl) ?_
      refine lv_iload X.hx X.hb dJ7_fill_d0a16_7 (lv_at hl 3 rfl) ?_
      refine lv_icmp_ge (tgt := 22) X.hx X.hb dJ7_fill_d0a16_9 (by decide) (fun hc => absurd hc (nI_ge (by omega) hn)) (fun hc => ?_)
      refine lv_aload_n X.hx X.hb dJ7_fill_d0a16_12 rfl (lv_at hl 0 rfl) ?_
      refine lv_iload_n X.hx X.hb dJ7_fill_d0a16_13 rfl (lv_at hl 2 rfl) ?_
      refine lv_lload_n X.hx X.hb dJ7_fill_d0a16_14 rfl (lv_at hl 1 rfl) ?_
      refine r_last X hP hD hS 0 (f := fl_l j f v) rfl (vp_in_nI (by omega) hn) (wo := [(q, .inl (G.2.1 2, n, .inr (.inl (fl_l (j + 1) f v))))]) (by rw [nI_clamp (by omega), fl_ls]; rfl) dJ7_fill_d0a16_15 (fun H locs hP hD hS => ?_)
      refine lv_iinc (v := nI (j + 1)) (lv' := [(3, .int (nI (j + 1))), (0, .ref q), (1, .long v), (4, .int (nI n))]) X.hx X.hb dJ7_fill_d0a16_16 hl (k := 2) rfl (nI_1 j) (by decide) rfl (fun ls hl => ?_)
      refine lv_goto (tgt := 6) X.hx X.hb dJ7_fill_d0a16_19 (by decide) ?_
      exact ih (j + 1) H locs ls (by omega) hP hD hS (lv_sub hl [1, 2, 0, 3] rfl)
  refine lv_iconst (v := 0) X.hx X.hb dJ7_fill_d0a16_0 (by decide) ?_
  refine lv_istore_n (lv' := [(3, .int 0), (0, .ref q), (1, .long v)]) X.hx X.hb dJ7_fill_d0a16_1 rfl hl (by decide) rfl (fun ls hl => ?_)
  refine lv_aload_n X.hx X.hb dJ7_fill_d0a16_2 rfl (lv_at hl 1 rfl) ?_
  refine va_alen X.hx X.hb X.hK hP 0 2 rfl rfl (v := nI n) rfl dJ7_fill_d0a16_3 ?_
  refine lv_istore (lv' := [(4, .int (nI n)), (3, .int 0), (0, .ref q), (1, .long v)]) X.hx X.hb dJ7_fill_d0a16_4 hl (by decide) rfl (fun ls hl => ?_)
  exact loop n 0 _ _ ls (by omega) (by rw [fl_l0]; exact hP) (by rw [fl_l0]; exact hD) hS (lv_sub hl [2, 3, 1, 0] rfl)
section FR
variable {p : Program} {l : Launch} {e : Env} {R : Room} {s : State} {m : MethodId} {args : Array Value} {below : List Frame} {meth : Method} {c : Code} {H : Heap} {locs : List Loc} {cells slots : Nat} {Q : State → Prop}
variable {G : GT} {own : String} {cc : ByteArray} {nL : Nat} {ret : Option FieldType} {A : Nat → Prop} {ws wo : va_W} {pc a : Nat} {ls : Array Slot} {rest : List Value} {idx : Nat}
theorem r_filli (X : CX G A own cc nL ret p s m args meth c) (K : SS own idx yJ7_fill_53178 cJ7_fill_53178 4 none 2) (hP : va_P G.1 vwCl ws H) (hD : va_D A ws) (hS : va_S A s.heap H locs) (hA : ∀ q : Nat, s.heap.size ≤ q → A q) (q0 : Nat) {n : Nat} {f : Nat → Int32} {v : Int32} (ha : ws[q0]? = some (a, .inl (G.2.1 1, n, .inl f))) (hn : n + 1 ≤ 2 ^ 31)
    (hls : ls.size = nL) (hW : 2 * (F0 m pc ls ([Value.ref a, .int v].reverse ++ rest)).monitorRoom + (rest.map fun v => v.category).sum ≤ 8) (hR : 1 + 1 ≤ R.frames ∧ 8 + (4 + 11) + 60 * 1 ≤ R.locals) (hf : cells ≤ R.cells ∧ slots ≤ R.slots) (ho : ws.set q0 (a, .inl (G.2.1 1, n, .inl (fl_i n f v))) = wo) (hdg : decode cc pc = .ok (.invokestatic idx, 3))
    (kk : ∀ (H1 : Heap) (locs1 : List Loc), va_P G.1 vwCl wo H1 → va_D A wo → va_S A s.heap H1 locs1 → W p l e R s m args below meth c H1 locs1 cells slots Q (F0 m (pc + 3) ls rest)) : W p l e R s m args below meth c H locs cells slots Q (F0 m pc ls (.int v :: .ref a :: rest)) :=
  r_csv (As := [.ref a, .int v]) (rest := rest) X K (c_fill_i l G a n hn f v) hP hD hS hA [q0] (by rw [List.map_cons, ha]; rfl) rfl rfl (by rw [← ho]; rfl) rfl hls hW hR hf hdg kk
theorem r_filll (X : CX G A own cc nL ret p s m args meth c) (K : SS own idx yJ7_fill_d0a16 cJ7_fill_d0a16 5 none 2) (hP : va_P G.1 vwCl ws H) (hD : va_D A ws) (hS : va_S A s.heap H locs) (hA : ∀ q : Nat, s.heap.size ≤ q → A q) (q0 : Nat) {n : Nat} {f : Nat → Int64} {v : Int64} (ha : ws[q0]? = some (a, .inl (G.2.1 2, n, .inr (.inl f)))) (hn : n + 1 ≤ 2 ^ 31)
    (hls : ls.size = nL) (hW : 2 * (F0 m pc ls ([Value.ref a, .long v].reverse ++ rest)).monitorRoom + (rest.map fun v => v.category).sum ≤ 8) (hR : 1 + 1 ≤ R.frames ∧ 8 + (5 + 11) + 60 * 1 ≤ R.locals) (hf : cells ≤ R.cells ∧ slots ≤ R.slots) (ho : ws.set q0 (a, .inl (G.2.1 2, n, .inr (.inl (fl_l n f v)))) = wo) (hdg : decode cc pc = .ok (.invokestatic idx, 3))
    (kk : ∀ (H1 : Heap) (locs1 : List Loc), va_P G.1 vwCl wo H1 → va_D A wo → va_S A s.heap H1 locs1 → W p l e R s m args below meth c H1 locs1 cells slots Q (F0 m (pc + 3) ls rest)) : W p l e R s m args below meth c H locs cells slots Q (F0 m pc ls (.long v :: .ref a :: rest)) :=
  r_csv (As := [.ref a, .long v]) (rest := rest) X K (c_fill_l l G a n hn f v) hP hD hS hA [q0] (by rw [List.map_cons, ha]; rfl) rfl rfl (by rw [← ho]; rfl) rfl hls hW hR hf hdg kk
end FR
