def ul (L : List Nat) : Nat → Nat := fun k => L.getD k 0
def ulf (L : List (Nat → Nat)) : Nat → Nat → Nat := fun k => L.getD k (fun _ => 0)
theorem ct_fs {N : Nat} {ty : Nat → FieldType} {fs : List Value} (h : (List.range N).all (fun j => decide (defaultValue (ty j) = vp_V fs j)) = true) : ∀ j, j < N → defaultValue (ty j) = vp_V fs j := fun j hj => of_decide_eq_true (List.all_eq_true.mp h j (List.mem_range.mpr hj))
section CI_
variable {p : Program} {l : Launch} {e : Env} {R : Room} {s : State} {m : MethodId} {args : Array Value} {below : List Frame} {meth : Method} {c : Code} {H : Heap} {locs : List Loc} {cells slots : Nat} {Q : State → Prop}
variable {G : GT} {own : String} {cc : ByteArray} {nL : Nat} {ret : Option FieldType} {A : Nat → Prop} {ws wc wr : va_W} {pc : Nat} {ls : Array Slot} {rest : List Value}
variable {idx : Nat} {y : MethodName} {c2 : ByteArray} {n2 n d2 mc ms : Nat} {As : List Value} {b : Nat} {W' : (Nat → Nat → Nat) → va_W}
theorem r_afn (hr : va_Run p l e R s m args below meth c H locs cells slots mc ms (F0 m pc ls rest) As (QN G (va_A wc H.size) b W' args) (va_A wc H.size)) (hP : va_P G.1 vwCl ws H) (hD : va_D A ws) (hS : va_S A s.heap H locs) (hA : ∀ q : Nat, s.heap.size ≤ q → A q) (is isR : List Nat) (hC : is.map (fun i => ws[i]?) = wc.map some) (hR : isR.map (fun i => ws[i]?) = wr.map some) (hn : va_nd isR = true) (hdis : ∀ i ∈ isR, i ∉ is)
    (kk : ∀ (u : Nat → Nat → Nat) (H1 : Heap) (locs1 : List Loc), u 0 0 = b → va_P G.1 vwCl (wr ++ W' u) H1 → va_D A (wr ++ W' u) → va_S A s.heap H1 locs1 → W p l e R s m args below meth c H1 locs1 (cells + mc) (slots + ms) Q (F0 m (pc + 3) ls As)) : W p l e R s m args below meth c H locs cells slots Q (F0 m pc ls rest) := by
  have hF := va_free (wc := wc) hD hS hA is hC
  refine va_callv hr hS (fun q _ h => hF q h) hF (fun u t H1 locs1 ht hvm hw hB hz hk hS1 => ?_)
  obtain ⟨hP1, hD1⟩ := hB
  rw [ht] at hP1
  obtain ⟨hP2, hD2⟩ := va_join (wr := wr) (w1 := W' u) hP hD is isR hC hR hn hdis hk hF hP1 hD1
  exact kk u H1 locs1 hw hP2 hD2 hS1
theorem r_afm (wr : va_W) (hr : va_Run p l e R s m args below meth c H locs cells slots mc ms (F0 m pc ls rest) As (QN G (va_A wc H.size) b W' args) (va_A wc H.size)) (hP : va_P G.1 vwCl ([] ++ (wc ++ wr)) H) (hD : va_D A ([] ++ (wc ++ wr))) (hS : va_S A s.heap H locs) (hA : ∀ q : Nat, s.heap.size ≤ q → A q)
    (kk : ∀ (u : Nat → Nat → Nat) (H1 : Heap) (locs1 : List Loc), u 0 0 = b → va_P G.1 vwCl (wr ++ W' u) H1 → va_D A (wr ++ W' u) → va_S A s.heap H1 locs1 → W p l e R s m args below meth c H1 locs1 (cells + mc) (slots + ms) Q (F0 m (pc + 3) ls As)) : W p l e R s m args below meth c H locs cells slots Q (F0 m pc ls rest) := by
  have hF := fr_all (vb_sub hP hD).2 hS hA
  refine va_callv hr hS (fun q _ h => hF q h) hF (fun u t H1 locs1 ht hvm hw hB hz hk hS1 => ?_)
  obtain ⟨hP1, hD1⟩ := hB
  rw [ht] at hP1
  obtain ⟨hP2, hD2⟩ := vb_ok hP hD hk hF hP1 hD1
  have hq : ([] ++ (W' u ++ wr)).Perm (wr ++ W' u) := by rw [List.nil_append]; exact List.perm_append_comm
  exact kk u H1 locs1 hw (vp_perm hq hP2) (vd_perm hq hD2) hS1
theorem r_ci (X : CX G A own cc nL ret p s m args meth c) (K : SB own idx y c2 n2 none n) (hy : y.name = "<init>") (him : Cond.instanceMethod y ∈ TT) (hM : CN l G y c2 n2 d2 mc ms (.ref b :: As) wc b W') (hP : va_P G.1 vwCl ws H) (hD : va_D A ws) (hS : va_S A s.heap H locs) (hA : ∀ q : Nat, s.heap.size ≤ q → A q) (is isR : List Nat) (hC : is.map (fun i => ws[i]?) = wc.map some) (hR : isR.map (fun i => ws[i]?) = wr.map some) (hnC : va_nd is = true) (hn : va_nd isR = true) (hdis : ∀ i ∈ isR, i ∉ is)
    (hnn : As.length = n) (hls : ls.size = nL) (hW : 2 * (F0 m pc ls (As.reverse ++ .ref b :: rest)).monitorRoom + (rest.map fun v => v.category).sum ≤ 8) (hRm : d2 + 1 ≤ R.frames ∧ 8 + (n2 + 11) + 60 * d2 ≤ R.locals) (hf : cells + mc ≤ R.cells ∧ slots + ms ≤ R.slots) (hdg : decode cc pc = .ok (.invokespecial idx, 3))
    (kk : ∀ (u : Nat → Nat → Nat) (H1 : Heap) (locs1 : List Loc), u 0 0 = b → va_P G.1 vwCl (wr ++ W' u) H1 → va_D A (wr ++ W' u) → va_S A s.heap H1 locs1 → W p l e R s m args below meth c H1 locs1 (cells + mc) (slots + ms) Q (F0 m (pc + 3) ls rest)) : W p l e R s m args below meth c H locs cells slots Q (F0 m pc ls (As.reverse ++ .ref b :: rest)) :=
  r_afn (As := rest) (va_runI (As := As) (rest := rest) X.fix (hM H.size) ⟨callB_of n X.hts (tt_code K.2.2.1) rfl rfl rfl (X.hts _ K.2.1) (X.hts _ K.1) K.2.2.2 hRm, hy, X.hts _ him⟩ (preS_of X (hP.sub is (fm_of hC)) (hD.sub is hnC hC) hS (va_free hD hS hA is hC)) rfl hnn hls rfl hW hdg hf) hP hD hS hA is isR hC hR hn hdis kk
theorem r_cin (X : CX G A own cc nL ret p s m args meth c) (K : SN own idx y c2 n2 none n) (hy : y.name = "<init>") (him : Cond.instanceMethod y ∈ TT) (hM : CN l G y c2 n2 d2 mc ms (.ref b :: As) wc b W') (hP : va_P G.1 vwCl ws H) (hD : va_D A ws) (hS : va_S A s.heap H locs) (hA : ∀ q : Nat, s.heap.size ≤ q → A q) (is isR : List Nat) (hC : is.map (fun i => ws[i]?) = wc.map some) (hR : isR.map (fun i => ws[i]?) = wr.map some) (hnC : va_nd is = true) (hn : va_nd isR = true) (hdis : ∀ i ∈ isR, i ∉ is)
    (hnn : As.length = n) (hls : ls.size = nL) (hW : 2 * (F0 m pc ls (As.reverse ++ .ref b :: rest)).monitorRoom + (rest.map fun v => v.category).sum ≤ 8) (hRm : d2 + 1 ≤ R.frames ∧ 8 + (n2 + 11) + 60 * d2 ≤ R.locals) (hf : cells + mc ≤ R.cells ∧ slots + ms ≤ R.slots) (hdg : decode cc pc = .ok (.invokespecial idx, 3))
    (kk : ∀ (u : Nat → Nat → Nat) (H1 : Heap) (locs1 : List Loc), u 0 0 = b → va_P G.1 vwCl (wr ++ W' u) H1 → va_D A (wr ++ W' u) → va_S A s.heap H1 locs1 → W p l e R s m args below meth c H1 locs1 (cells + mc) (slots + ms) Q (F0 m (pc + 3) ls rest)) : W p l e R s m args below meth c H locs cells slots Q (F0 m pc ls (As.reverse ++ .ref b :: rest)) :=
  r_afn (As := rest) (va_runIN (As := As) (rest := rest) X.fix (hM H.size) ⟨va_cnB n X.hts (tt_code K.2.2.1) rfl rfl rfl (X.hN _ K.1) (X.hts _ K.2.1) K.2.2.2 hRm, hy, X.hts _ him⟩ (preS_of X (hP.sub is (fm_of hC)) (hD.sub is hnC hC) hS (va_free hD hS hA is hC)) rfl hnn hls rfl hW hdg hf) hP hD hS hA is isR hC hR hn hdis kk
theorem r_cip (L J : List va_W) (n0 : Nat) (ks : List Nat) (j : Nat) (wr : va_W) (X : CX G A own cc nL ret p s m args meth c) (K : SB own idx y c2 n2 none n) (hy : y.name = "<init>") (him : Cond.instanceMethod y ∈ TT) (hM : CN l G y c2 n2 d2 mc ms (.ref b :: As) wc b W') (hP : va_P G.1 vwCl ws H) (hD : va_D A ws) (hS : va_S A s.heap H locs) (hA : ∀ q : Nat, s.heap.size ≤ q → A q) (hn0 : L.length = n0) (hj : ([j] ++ ks).isPerm (List.range n0) = true) (hw : ws = L.flatten) (hJ : pk L [j] = J) (hc1 : wc = J.flatten) (hr : (pk L ks).flatten = wr)
    (hnn : As.length = n) (hls : ls.size = nL) (hW : 2 * (F0 m pc ls (As.reverse ++ .ref b :: rest)).monitorRoom + (rest.map fun v => v.category).sum ≤ 8) (hRm : d2 + 1 ≤ R.frames ∧ 8 + (n2 + 11) + 60 * d2 ≤ R.locals) (hf : cells + mc ≤ R.cells ∧ slots + ms ≤ R.slots) (hdg : decode cc pc = .ok (.invokespecial idx, 3))
    (kk : ∀ (u : Nat → Nat → Nat) (H1 : Heap) (locs1 : List Loc), u 0 0 = b → va_P G.1 vwCl (wr ++ W' u) H1 → va_D A (wr ++ W' u) → va_S A s.heap H1 locs1 → W p l e R s m args below meth c H1 locs1 (cells + mc) (slots + ms) Q (F0 m (pc + 3) ls rest)) : W p l e R s m args below meth c H locs cells slots Q (F0 m pc ls (As.reverse ++ .ref b :: rest)) := by
  have h1 := pw_in (wc := wc) L [j] ks (by rw [hn0]; exact hj) hw (by rw [hJ]; exact hc1)
  rw [hr] at h1
  have hP' := vp_perm h1 hP
  have hD' := vd_perm h1 hD
  have hF := fr_all (vb_sub hP' hD').2 hS hA
  exact r_afm wr (va_runI (As := As) (rest := rest) X.fix (hM H.size) ⟨callB_of n X.hts (tt_code K.2.2.1) rfl rfl rfl (X.hts _ K.2.1) (X.hts _ K.1) K.2.2.2 hRm, hy, X.hts _ him⟩ (preS_of X (vb_sub hP' hD').1 (vb_sub hP' hD').2 hS hF) rfl hnn hls rfl hW hdg hf) hP' hD' hS hA kk
theorem r_cipN (L J : List va_W) (n0 : Nat) (ks : List Nat) (j : Nat) (wr : va_W) (X : CX G A own cc nL ret p s m args meth c) (K : SN own idx y c2 n2 none n) (hy : y.name = "<init>") (him : Cond.instanceMethod y ∈ TT) (hM : CN l G y c2 n2 d2 mc ms (.ref b :: As) wc b W') (hP : va_P G.1 vwCl ws H) (hD : va_D A ws) (hS : va_S A s.heap H locs) (hA : ∀ q : Nat, s.heap.size ≤ q → A q) (hn0 : L.length = n0) (hj : ([j] ++ ks).isPerm (List.range n0) = true) (hw : ws = L.flatten) (hJ : pk L [j] = J) (hc1 : wc = J.flatten) (hr : (pk L ks).flatten = wr)
    (hnn : As.length = n) (hls : ls.size = nL) (hW : 2 * (F0 m pc ls (As.reverse ++ .ref b :: rest)).monitorRoom + (rest.map fun v => v.category).sum ≤ 8) (hRm : d2 + 1 ≤ R.frames ∧ 8 + (n2 + 11) + 60 * d2 ≤ R.locals) (hf : cells + mc ≤ R.cells ∧ slots + ms ≤ R.slots) (hdg : decode cc pc = .ok (.invokespecial idx, 3))
    (kk : ∀ (u : Nat → Nat → Nat) (H1 : Heap) (locs1 : List Loc), u 0 0 = b → va_P G.1 vwCl (wr ++ W' u) H1 → va_D A (wr ++ W' u) → va_S A s.heap H1 locs1 → W p l e R s m args below meth c H1 locs1 (cells + mc) (slots + ms) Q (F0 m (pc + 3) ls rest)) : W p l e R s m args below meth c H locs cells slots Q (F0 m pc ls (As.reverse ++ .ref b :: rest)) := by
  have h1 := pw_in (wc := wc) L [j] ks (by rw [hn0]; exact hj) hw (by rw [hJ]; exact hc1)
  rw [hr] at h1
  have hP' := vp_perm h1 hP
  have hD' := vd_perm h1 hD
  have hF := fr_all (vb_sub hP' hD').2 hS hA
  exact r_afm wr (va_runIN (As := As) (rest := rest) X.fix (hM H.size) ⟨va_cnB n X.hts (tt_code K.2.2.1) rfl rfl rfl (X.hN _ K.1) (X.hts _ K.2.1) K.2.2.2 hRm, hy, X.hts _ him⟩ (preS_of X (vb_sub hP' hD').1 (vb_sub hP' hD').2 hS hF) rfl hnn hls rfl hW hdg hf) hP' hD' hS hA kk
end CI_

theorem sc_X2_11 : SB RX2 11 yX1_init cX1_init 1 none 0 := ⟨tw_244, tw_7, tw_150, by decide +kernel⟩
theorem sc_X3_9 : SB RX3 9 yX1_init cX1_init 1 none 0 := ⟨tw_481, tw_7, tw_150, by decide +kernel⟩
theorem sc_X3_18 : SB RX3 18 yX4_init cX4_init 2 none 1 := ⟨tw_483, tw_10, tw_266, by decide +kernel⟩
theorem sc_X3_27 : SN RX3 27 yX6_init cX6_init 1 none 0 := ⟨nw_88, tw_14, tw_432, by decide +kernel⟩
theorem sc_X7_11 : SN RX7 11 yX6_init cX6_init 1 none 0 := ⟨nw_85, tw_14, tw_432, by decide +kernel⟩
theorem sc_X10_9 : SB RX10 9 yX8_init cX8_init 4 none 0 := ⟨tw_35, tw_2, tw_37, by decide +kernel⟩
theorem sc_X10_18 : SB RX10 18 yX1_init cX1_init 1 none 0 := ⟨tw_148, tw_7, tw_150, by decide +kernel⟩
theorem sc_X10_25 : SB RX10 25 yX2_init cX2_init 2 none 1 := ⟨tw_239, tw_9, tw_241, by decide +kernel⟩
theorem sc_X10_34 : SB RX10 34 yX4_init cX4_init 2 none 1 := ⟨tw_264, tw_10, tw_266, by decide +kernel⟩
theorem sc_X10_54 : SB RX10 54 yX9_init cX9_init 3 none 2 := ⟨tw_332, tw_11, tw_334, by decide +kernel⟩
theorem sc_X10_63 : SN RX10 63 yX5_init cX5_init 1 none 0 := ⟨nw_75, tw_12, tw_370, by decide +kernel⟩
theorem sc_X10_70 : SB RX10 70 yX0_init cX0_init 3 none 2 := ⟨tw_382, tw_13, tw_384, by decide +kernel⟩
theorem sc_X10_79 : SN RX10 79 yX6_init cX6_init 1 none 0 := ⟨nw_82, tw_14, tw_432, by decide +kernel⟩
theorem sc_X10_86 : SB RX10 86 yX7_init cX7_init 3 none 2 := ⟨tw_457, tw_15, tw_459, by decide +kernel⟩
theorem sc_X10_93 : SN RX10 93 yX3_init cX3_init 1 none 0 := ⟨nw_87, tw_16, tw_478, by decide +kernel⟩
theorem sc_L_15 : SB RL 15 yX10_init cX10_init 2 none 0 := ⟨tw_27, tw_1, tw_29, by decide +kernel⟩
theorem sc_L_18 : SB RL 18 yX11_init cX11_init 2 none 0 := ⟨tw_1290, tw_18, tw_1292, by decide +kernel⟩
theorem dX3_init_0 : decode cX3_init 0 = .ok (.aload_n 0, 1) := by decide +kernel
theorem dX3_init_1 : decode cX3_init 1 = .ok (.invokespecial 1, 3) := by decide +kernel
theorem dX3_init_4 : decode cX3_init 4 = .ok (.aload_n 0, 1) := by decide +kernel
theorem dX3_init_5 : decode cX3_init 5 = .ok (.new 7, 3) := by decide +kernel
theorem dX3_init_8 : decode cX3_init 8 = .ok (.dup, 1) := by decide +kernel
theorem dX3_init_9 : decode cX3_init 9 = .ok (.invokespecial 9, 3) := by decide +kernel
theorem dX3_init_12 : decode cX3_init 12 = .ok (.putfield 10, 3) := by decide +kernel
theorem dX3_init_15 : decode cX3_init 15 = .ok (.aload_n 0, 1) := by decide +kernel
theorem dX3_init_16 : decode cX3_init 16 = .ok (.new 16, 3) := by decide +kernel
theorem dX3_init_19 : decode cX3_init 19 = .ok (.dup, 1) := by decide +kernel
theorem dX3_init_20 : decode cX3_init 20 = .ok (.aload_n 0, 1) := by decide +kernel
theorem dX3_init_21 : decode cX3_init 21 = .ok (.getfield 10, 3) := by decide +kernel
theorem dX3_init_24 : decode cX3_init 24 = .ok (.invokespecial 18, 3) := by decide +kernel
theorem dX3_init_27 : decode cX3_init 27 = .ok (.putfield 21, 3) := by decide +kernel
theorem dX3_init_30 : decode cX3_init 30 = .ok (.aload_n 0, 1) := by decide +kernel
theorem dX3_init_31 : decode cX3_init 31 = .ok (.new 25, 3) := by decide +kernel
theorem dX3_init_34 : decode cX3_init 34 = .ok (.dup, 1) := by decide +kernel
theorem dX3_init_35 : decode cX3_init 35 = .ok (.invokespecial 27, 3) := by decide +kernel
theorem dX3_init_38 : decode cX3_init 38 = .ok (.putfield 28, 3) := by decide +kernel
theorem dX3_init_41 : decode cX3_init 41 = .ok (.return_, 1) := by decide +kernel
set_option maxHeartbeats 4000000 in
set_option maxRecDepth 100000 in
theorem c_X5_init (l : Launch) (G : GT) (N : Nat) (a : Nat) : CN l G yX5_init cX5_init 1 1 1 80 [.ref a] [(a, .inr (5, [.null, .int 0]))] a (fun u => gP G (u 0) (fun _ _ => 0) (fun _ => 0)) := by
  refine CN.of (by decide) rfl (Nat.le_of_ble_eq_true rfl) ?_
  intro p e s m args below meth c A X hin hA hP hD hS ls hl
  have hl : lv_has ls 1 [(0, .ref a)] := hl
  refine lv_aload_n X.hx X.hb dX5_init_0 rfl (lv_at hl 0 rfl) ?_
  refine r_objInit X tw_371 hl.1 (Nat.le_of_ble_eq_true rfl) (Nat.le_of_ble_eq_true rfl) dX5_init_1 ?_
  refine lv_aload_n X.hx X.hb dX5_init_4 rfl (lv_at hl 0 rfl) ?_
  refine lv_bipush (v := 80) X.hx X.hb dX5_init_5 (by decide) ?_
  refine r_newi X hP hD hS hA 80 (by decide) (by decide) (Nat.le_of_ble_eq_true rfl) (Nat.le_of_ble_eq_true rfl) (Nat.le_of_ble_eq_true rfl) dX5_init_7 (fun q_1 H hP hD hS => ?_)
  refine W.widen (k := 1) (n := 80) (Nat.le_of_ble_eq_true rfl) (Nat.le_of_ble_eq_true rfl) ?_
  replace hP : va_P G.1 vwCl ([(a, .inr (5, [.null, .int 0])), (q_1, .inl (G.2.1 1, 80, .inl (fun _ => 0)))]) H := hP
  replace hD : va_D A ([(a, .inr (5, [.null, .int 0])), (q_1, .inl (G.2.1 1, 80, .inl (fun _ => 0)))]) := hD
  refine va_putF (D := G.1) (ci := 5) (v := .ref q_1) (C := RX5) (T := TX5) (N := 2) X.hx X.hb X.hts hu_5 tyX5 tyX5_ok nmX5 X.hown X.hK hP hD hS 0 rfl rfl 0 (by decide) (X.hts _ tw_372) (fun _ h9 => h9) rfl hin rfl (tyX5_ok 0 (by decide)) rfl rfl (Nat.le_of_ble_eq_true rfl) dX5_init_9 (fun H locs hP hD hS => ?_)
  replace hP : va_P G.1 vwCl ([(a, .inr (5, [.ref q_1, .int 0])), (q_1, .inl (G.2.1 1, 80, .inl (fun _ => 0)))]) H := hP
  replace hD : va_D A ([(a, .inr (5, [.ref q_1, .int 0])), (q_1, .inl (G.2.1 1, 80, .inl (fun _ => 0)))]) := hD
  replace hP : va_P G.1 vwCl (gP G (ul [a, q_1]) (fun _ _ => 0) (fun _ => 0)) H := hP.sub (ws' := (gP G (ul [a, q_1]) (fun _ _ => 0) (fun _ => 0))) [0, 1] rfl
  replace hD : va_D A (gP G (ul [a, q_1]) (fun _ _ => 0) (fun _ => 0)) := hD.sub (ws' := (gP G (ul [a, q_1]) (fun _ _ => 0) (fun _ => 0))) [0, 1] (by decide) rfl
  refine W.widen (k := 1) (n := 80) (Nat.le_of_ble_eq_true rfl) (Nat.le_of_ble_eq_true rfl) ?_
  exact r_nret (W' := (fun u => gP G (u 0) (fun _ _ => 0) (fun _ => 0))) X (ulf [(ul [a, q_1])]) rfl hP hD hS dX5_init_12

set_option maxHeartbeats 4000000 in
set_option maxRecDepth 100000 in
theorem c_X6_init (l : Launch) (G : GT) (N : Nat) (a : Nat) : CN l G yX6_init cX6_init 1 1 4 140 [.ref a] [(a, .inr (6, [.int 0, .int 0, .null, .null, .null, .null]))] a (fun u => gS G (u 0) (fun _ => 0) (fun _ _ => 0)) := by
  refine CN.of (by decide) rfl (Nat.le_of_ble_eq_true rfl) ?_
  intro p e s m args below meth c A X hin hA hP hD hS ls hl
  have hl : lv_has ls 1 [(0, .ref a)] := hl
  refine lv_aload_n X.hx X.hb dX6_init_0 rfl (lv_at hl 0 rfl) ?_
  refine r_objInit X tw_433 hl.1 (Nat.le_of_ble_eq_true rfl) (Nat.le_of_ble_eq_true rfl) dX6_init_1 ?_
  refine lv_aload_n X.hx X.hb dX6_init_4 rfl (lv_at hl 0 rfl) ?_
  refine lv_bipush (v := 40) X.hx X.hb dX6_init_5 (by decide) ?_
  refine r_newi X hP hD hS hA 40 (by decide) (by decide) (Nat.le_of_ble_eq_true rfl) (Nat.le_of_ble_eq_true rfl) (Nat.le_of_ble_eq_true rfl) dX6_init_7 (fun q_1 H hP hD hS => ?_)
  refine W.widen (k := 1) (n := 40) (Nat.le_of_ble_eq_true rfl) (Nat.le_of_ble_eq_true rfl) ?_
  replace hP : va_P G.1 vwCl ([(a, .inr (6, [.int 0, .int 0, .null, .null, .null, .null])), (q_1, .inl (G.2.1 1, 40, .inl (fun _ => 0)))]) H := hP
  replace hD : va_D A ([(a, .inr (6, [.int 0, .int 0, .null, .null, .null, .null])), (q_1, .inl (G.2.1 1, 40, .inl (fun _ => 0)))]) := hD
  refine va_putF (D := G.1) (ci := 6) (v := .ref q_1) (C := RX6) (T := TX6) (N := 6) X.hx X.hb X.hts hu_6 tyX6 tyX6_ok nmX6 X.hown X.hK hP hD hS 0 rfl rfl 2 (by decide) (X.hts _ tw_438) (fun _ h9 => h9) rfl hin rfl (tyX6_ok 2 (by decide)) rfl rfl (Nat.le_of_ble_eq_true rfl) dX6_init_9 (fun H locs hP hD hS => ?_)
  replace hP : va_P G.1 vwCl ([(a, .inr (6, [.int 0, .int 0, .ref q_1, .null, .null, .null])), (q_1, .inl (G.2.1 1, 40, .inl (fun _ => 0)))]) H := hP
  replace hD : va_D A ([(a, .inr (6, [.int 0, .int 0, .ref q_1, .null, .null, .null])), (q_1, .inl (G.2.1 1, 40, .inl (fun _ => 0)))]) := hD
  refine lv_aload_n X.hx X.hb dX6_init_12 rfl (lv_at hl 0 rfl) ?_
  refine lv_bipush (v := 40) X.hx X.hb dX6_init_13 (by decide) ?_
  refine r_newi X hP hD hS hA 40 (by decide) (by decide) (Nat.le_of_ble_eq_true rfl) (Nat.le_of_ble_eq_true rfl) (Nat.le_of_ble_eq_true rfl) dX6_init_15 (fun q_2 H hP hD hS => ?_)
  refine W.widen (k := 2) (n := 80) (Nat.le_of_ble_eq_true rfl) (Nat.le_of_ble_eq_true rfl) ?_
  replace hP : va_P G.1 vwCl ([(a, .inr (6, [.int 0, .int 0, .ref q_1, .null, .null, .null])), (q_1, .inl (G.2.1 1, 40, .inl (fun _ => 0))), (q_2, .inl (G.2.1 1, 40, .inl (fun _ => 0)))]) H := hP
  replace hD : va_D A ([(a, .inr (6, [.int 0, .int 0, .ref q_1, .null, .null, .null])), (q_1, .inl (G.2.1 1, 40, .inl (fun _ => 0))), (q_2, .inl (G.2.1 1, 40, .inl (fun _ => 0)))]) := hD
  refine va_putF (D := G.1) (ci := 6) (v := .ref q_2) (C := RX6) (T := TX6) (N := 6) X.hx X.hb X.hts hu_6 tyX6 tyX6_ok nmX6 X.hown X.hK hP hD hS 0 rfl rfl 3 (by decide) (X.hts _ tw_439) (fun _ h9 => h9) rfl hin rfl (tyX6_ok 3 (by decide)) rfl rfl (Nat.le_of_ble_eq_true rfl) dX6_init_17 (fun H locs hP hD hS => ?_)
  replace hP : va_P G.1 vwCl ([(a, .inr (6, [.int 0, .int 0, .ref q_1, .ref q_2, .null, .null])), (q_1, .inl (G.2.1 1, 40, .inl (fun _ => 0))), (q_2, .inl (G.2.1 1, 40, .inl (fun _ => 0)))]) H := hP
  replace hD : va_D A ([(a, .inr (6, [.int 0, .int 0, .ref q_1, .ref q_2, .null, .null])), (q_1, .inl (G.2.1 1, 40, .inl (fun _ => 0))), (q_2, .inl (G.2.1 1, 40, .inl (fun _ => 0)))]) := hD
  refine lv_aload_n X.hx X.hb dX6_init_20 rfl (lv_at hl 0 rfl) ?_
  refine lv_bipush (v := 40) X.hx X.hb dX6_init_21 (by decide) ?_
  refine r_newi X hP hD hS hA 40 (by decide) (by decide) (Nat.le_of_ble_eq_true rfl) (Nat.le_of_ble_eq_true rfl) (Nat.le_of_ble_eq_true rfl) dX6_init_23 (fun q_3 H hP hD hS => ?_)
  refine W.widen (k := 3) (n := 120) (Nat.le_of_ble_eq_true rfl) (Nat.le_of_ble_eq_true rfl) ?_
  replace hP : va_P G.1 vwCl ([(a, .inr (6, [.int 0, .int 0, .ref q_1, .ref q_2, .null, .null])), (q_1, .inl (G.2.1 1, 40, .inl (fun _ => 0))), (q_2, .inl (G.2.1 1, 40, .inl (fun _ => 0))), (q_3, .inl (G.2.1 1, 40, .inl (fun _ => 0)))]) H := hP
  replace hD : va_D A ([(a, .inr (6, [.int 0, .int 0, .ref q_1, .ref q_2, .null, .null])), (q_1, .inl (G.2.1 1, 40, .inl (fun _ => 0))), (q_2, .inl (G.2.1 1, 40, .inl (fun _ => 0))), (q_3, .inl (G.2.1 1, 40, .inl (fun _ => 0)))]) := hD
  refine va_putF (D := G.1) (ci := 6) (v := .ref q_3) (C := RX6) (T := TX6) (N := 6) X.hx X.hb X.hts hu_6 tyX6 tyX6_ok nmX6 X.hown X.hK hP hD hS 0 rfl rfl 4 (by decide) (X.hts _ tw_440) (fun _ h9 => h9) rfl hin rfl (tyX6_ok 4 (by decide)) rfl rfl (Nat.le_of_ble_eq_true rfl) dX6_init_25 (fun H locs hP hD hS => ?_)
  replace hP : va_P G.1 vwCl ([(a, .inr (6, [.int 0, .int 0, .ref q_1, .ref q_2, .ref q_3, .null])), (q_1, .inl (G.2.1 1, 40, .inl (fun _ => 0))), (q_2, .inl (G.2.1 1, 40, .inl (fun _ => 0))), (q_3, .inl (G.2.1 1, 40, .inl (fun _ => 0)))]) H := hP
  replace hD : va_D A ([(a, .inr (6, [.int 0, .int 0, .ref q_1, .ref q_2, .ref q_3, .null])), (q_1, .inl (G.2.1 1, 40, .inl (fun _ => 0))), (q_2, .inl (G.2.1 1, 40, .inl (fun _ => 0))), (q_3, .inl (G.2.1 1, 40, .inl (fun _ => 0)))]) := hD
  refine lv_aload_n X.hx X.hb dX6_init_28 rfl (lv_at hl 0 rfl) ?_
  refine lv_bipush (v := 20) X.hx X.hb dX6_init_29 (by decide) ?_
  refine r_newi X hP hD hS hA 20 (by decide) (by decide) (Nat.le_of_ble_eq_true rfl) (Nat.le_of_ble_eq_true rfl) (Nat.le_of_ble_eq_true rfl) dX6_init_31 (fun q_4 H hP hD hS => ?_)
  refine W.widen (k := 4) (n := 140) (Nat.le_of_ble_eq_true rfl) (Nat.le_of_ble_eq_true rfl) ?_
  replace hP : va_P G.1 vwCl ([(a, .inr (6, [.int 0, .int 0, .ref q_1, .ref q_2, .ref q_3, .null])), (q_1, .inl (G.2.1 1, 40, .inl (fun _ => 0))), (q_2, .inl (G.2.1 1, 40, .inl (fun _ => 0))), (q_3, .inl (G.2.1 1, 40, .inl (fun _ => 0))), (q_4, .inl (G.2.1 1, 20, .inl (fun _ => 0)))]) H := hP
  replace hD : va_D A ([(a, .inr (6, [.int 0, .int 0, .ref q_1, .ref q_2, .ref q_3, .null])), (q_1, .inl (G.2.1 1, 40, .inl (fun _ => 0))), (q_2, .inl (G.2.1 1, 40, .inl (fun _ => 0))), (q_3, .inl (G.2.1 1, 40, .inl (fun _ => 0))), (q_4, .inl (G.2.1 1, 20, .inl (fun _ => 0)))]) := hD
  refine va_putF (D := G.1) (ci := 6) (v := .ref q_4) (C := RX6) (T := TX6) (N := 6) X.hx X.hb X.hts hu_6 tyX6 tyX6_ok nmX6 X.hown X.hK hP hD hS 0 rfl rfl 5 (by decide) (X.hts _ tw_441) (fun _ h9 => h9) rfl hin rfl (tyX6_ok 5 (by decide)) rfl rfl (Nat.le_of_ble_eq_true rfl) dX6_init_33 (fun H locs hP hD hS => ?_)
  replace hP : va_P G.1 vwCl ([(a, .inr (6, [.int 0, .int 0, .ref q_1, .ref q_2, .ref q_3, .ref q_4])), (q_1, .inl (G.2.1 1, 40, .inl (fun _ => 0))), (q_2, .inl (G.2.1 1, 40, .inl (fun _ => 0))), (q_3, .inl (G.2.1 1, 40, .inl (fun _ => 0))), (q_4, .inl (G.2.1 1, 20, .inl (fun _ => 0)))]) H := hP
  replace hD : va_D A ([(a, .inr (6, [.int 0, .int 0, .ref q_1, .ref q_2, .ref q_3, .ref q_4])), (q_1, .inl (G.2.1 1, 40, .inl (fun _ => 0))), (q_2, .inl (G.2.1 1, 40, .inl (fun _ => 0))), (q_3, .inl (G.2.1 1, 40, .inl (fun _ => 0))), (q_4, .inl (G.2.1 1, 20, .inl (fun _ => 0)))]) := hD
  replace hP : va_P G.1 vwCl (gS G (ul [a, 0, 0, q_1, q_2, q_3, q_4]) (fun _ => 0) (fun _ _ => 0)) H := hP.sub (ws' := (gS G (ul [a, 0, 0, q_1, q_2, q_3, q_4]) (fun _ => 0) (fun _ _ => 0))) [0, 1, 2, 3, 4] rfl
  replace hD : va_D A (gS G (ul [a, 0, 0, q_1, q_2, q_3, q_4]) (fun _ => 0) (fun _ _ => 0)) := hD.sub (ws' := (gS G (ul [a, 0, 0, q_1, q_2, q_3, q_4]) (fun _ => 0) (fun _ _ => 0))) [0, 1, 2, 3, 4] (by decide) rfl
  refine W.widen (k := 4) (n := 140) (Nat.le_of_ble_eq_true rfl) (Nat.le_of_ble_eq_true rfl) ?_
  exact r_nret (W' := (fun u => gS G (u 0) (fun _ => 0) (fun _ _ => 0))) X (ulf [(ul [a, 0, 0, q_1, q_2, q_3, q_4])]) rfl hP hD hS dX6_init_36

set_option maxHeartbeats 4000000 in
set_option maxRecDepth 100000 in
theorem c_X1_init (l : Launch) (G : GT) (N : Nat) (a : Nat) {iC_8 : Nat → Int32} {tC_9 : Nat → Nat → Int64} {sC_10 : Nat → Nat → Int32} (hf_11 : f_X1_clear N (fun _ => 0) (fun _ _ => 0) (fun _ _ => 0) = some (iC_8, tC_9, sC_10)) : CN l G yX1_init cX1_init 1 3 7 138 [.ref a] [(a, .inr (1, [.int 0, .int 0, .null, .null, .null, .null, .null, .null, .null, .int 0, .int 0, .int 0]))] a (fun u => gC G (u 0) iC_8 tC_9 sC_10) := by
  refine CN.of (by decide) rfl (Nat.le_of_ble_eq_true rfl) ?_
  intro p e s m args below meth c A X hin hA hP hD hS ls hl
  have hl : lv_has ls 1 [(0, .ref a)] := hl
  refine lv_aload_n X.hx X.hb dX1_init_0 rfl (lv_at hl 0 rfl) ?_
  refine r_objInit X tw_151 hl.1 (Nat.le_of_ble_eq_true rfl) (Nat.le_of_ble_eq_true rfl) dX1_init_1 ?_
  refine lv_aload_n X.hx X.hb dX1_init_4 rfl (lv_at hl 0 rfl) ?_
  refine lv_bipush (v := 12) X.hx X.hb dX1_init_5 (by decide) ?_
  refine r_newl X hP hD hS hA 12 (by decide) (by decide) (Nat.le_of_ble_eq_true rfl) (Nat.le_of_ble_eq_true rfl) (Nat.le_of_ble_eq_true rfl) dX1_init_7 (fun q_1 H hP hD hS => ?_)
  refine W.widen (k := 1) (n := 12) (Nat.le_of_ble_eq_true rfl) (Nat.le_of_ble_eq_true rfl) ?_
  replace hP : va_P G.1 vwCl ([(a, .inr (1, [.int 0, .int 0, .null, .null, .null, .null, .null, .null, .null, .int 0, .int 0, .int 0])), (q_1, .inl (G.2.1 2, 12, .inr (.inl (fun _ => 0))))]) H := hP
  replace hD : va_D A ([(a, .inr (1, [.int 0, .int 0, .null, .null, .null, .null, .null, .null, .null, .int 0, .int 0, .int 0])), (q_1, .inl (G.2.1 2, 12, .inr (.inl (fun _ => 0))))]) := hD
  refine va_putF (D := G.1) (ci := 1) (v := .ref q_1) (C := RX1) (T := TX1) (N := 12) X.hx X.hb X.hts hu_1 tyX1 tyX1_ok nmX1 X.hown X.hK hP hD hS 0 rfl rfl 2 (by decide) (X.hts _ tw_173) (fun _ h9 => h9) rfl hin rfl (tyX1_ok 2 (by decide)) rfl rfl (Nat.le_of_ble_eq_true rfl) dX1_init_9 (fun H locs hP hD hS => ?_)
  replace hP : va_P G.1 vwCl ([(a, .inr (1, [.int 0, .int 0, .ref q_1, .null, .null, .null, .null, .null, .null, .int 0, .int 0, .int 0])), (q_1, .inl (G.2.1 2, 12, .inr (.inl (fun _ => 0))))]) H := hP
  replace hD : va_D A ([(a, .inr (1, [.int 0, .int 0, .ref q_1, .null, .null, .null, .null, .null, .null, .int 0, .int 0, .int 0])), (q_1, .inl (G.2.1 2, 12, .inr (.inl (fun _ => 0))))]) := hD
  refine lv_aload_n X.hx X.hb dX1_init_12 rfl (lv_at hl 0 rfl) ?_
  refine lv_bipush (v := 7) X.hx X.hb dX1_init_13 (by decide) ?_
  refine r_newi X hP hD hS hA 7 (by decide) (by decide) (Nat.le_of_ble_eq_true rfl) (Nat.le_of_ble_eq_true rfl) (Nat.le_of_ble_eq_true rfl) dX1_init_15 (fun q_2 H hP hD hS => ?_)
  refine W.widen (k := 2) (n := 19) (Nat.le_of_ble_eq_true rfl) (Nat.le_of_ble_eq_true rfl) ?_
  replace hP : va_P G.1 vwCl ([(a, .inr (1, [.int 0, .int 0, .ref q_1, .null, .null, .null, .null, .null, .null, .int 0, .int 0, .int 0])), (q_1, .inl (G.2.1 2, 12, .inr (.inl (fun _ => 0)))), (q_2, .inl (G.2.1 1, 7, .inl (fun _ => 0)))]) H := hP
  replace hD : va_D A ([(a, .inr (1, [.int 0, .int 0, .ref q_1, .null, .null, .null, .null, .null, .null, .int 0, .int 0, .int 0])), (q_1, .inl (G.2.1 2, 12, .inr (.inl (fun _ => 0)))), (q_2, .inl (G.2.1 1, 7, .inl (fun _ => 0)))]) := hD
  refine va_putF (D := G.1) (ci := 1) (v := .ref q_2) (C := RX1) (T := TX1) (N := 12) X.hx X.hb X.hts hu_1 tyX1 tyX1_ok nmX1 X.hown X.hK hP hD hS 0 rfl rfl 3 (by decide) (X.hts _ tw_176) (fun _ h9 => h9) rfl hin rfl (tyX1_ok 3 (by decide)) rfl rfl (Nat.le_of_ble_eq_true rfl) dX1_init_17 (fun H locs hP hD hS => ?_)
  replace hP : va_P G.1 vwCl ([(a, .inr (1, [.int 0, .int 0, .ref q_1, .ref q_2, .null, .null, .null, .null, .null, .int 0, .int 0, .int 0])), (q_1, .inl (G.2.1 2, 12, .inr (.inl (fun _ => 0)))), (q_2, .inl (G.2.1 1, 7, .inl (fun _ => 0)))]) H := hP
  replace hD : va_D A ([(a, .inr (1, [.int 0, .int 0, .ref q_1, .ref q_2, .null, .null, .null, .null, .null, .int 0, .int 0, .int 0])), (q_1, .inl (G.2.1 2, 12, .inr (.inl (fun _ => 0)))), (q_2, .inl (G.2.1 1, 7, .inl (fun _ => 0)))]) := hD
  refine lv_aload_n X.hx X.hb dX1_init_20 rfl (lv_at hl 0 rfl) ?_
  refine lv_bipush (v := 7) X.hx X.hb dX1_init_21 (by decide) ?_
  refine r_newi X hP hD hS hA 7 (by decide) (by decide) (Nat.le_of_ble_eq_true rfl) (Nat.le_of_ble_eq_true rfl) (Nat.le_of_ble_eq_true rfl) dX1_init_23 (fun q_3 H hP hD hS => ?_)
  refine W.widen (k := 3) (n := 26) (Nat.le_of_ble_eq_true rfl) (Nat.le_of_ble_eq_true rfl) ?_
  replace hP : va_P G.1 vwCl ([(a, .inr (1, [.int 0, .int 0, .ref q_1, .ref q_2, .null, .null, .null, .null, .null, .int 0, .int 0, .int 0])), (q_1, .inl (G.2.1 2, 12, .inr (.inl (fun _ => 0)))), (q_2, .inl (G.2.1 1, 7, .inl (fun _ => 0))), (q_3, .inl (G.2.1 1, 7, .inl (fun _ => 0)))]) H := hP
  replace hD : va_D A ([(a, .inr (1, [.int 0, .int 0, .ref q_1, .ref q_2, .null, .null, .null, .null, .null, .int 0, .int 0, .int 0])), (q_1, .inl (G.2.1 2, 12, .inr (.inl (fun _ => 0)))), (q_2, .inl (G.2.1 1, 7, .inl (fun _ => 0))), (q_3, .inl (G.2.1 1, 7, .inl (fun _ => 0)))]) := hD
  refine va_putF (D := G.1) (ci := 1) (v := .ref q_3) (C := RX1) (T := TX1) (N := 12) X.hx X.hb X.hts hu_1 tyX1 tyX1_ok nmX1 X.hown X.hK hP hD hS 0 rfl rfl 4 (by decide) (X.hts _ tw_179) (fun _ h9 => h9) rfl hin rfl (tyX1_ok 4 (by decide)) rfl rfl (Nat.le_of_ble_eq_true rfl) dX1_init_25 (fun H locs hP hD hS => ?_)
  replace hP : va_P G.1 vwCl ([(a, .inr (1, [.int 0, .int 0, .ref q_1, .ref q_2, .ref q_3, .null, .null, .null, .null, .int 0, .int 0, .int 0])), (q_1, .inl (G.2.1 2, 12, .inr (.inl (fun _ => 0)))), (q_2, .inl (G.2.1 1, 7, .inl (fun _ => 0))), (q_3, .inl (G.2.1 1, 7, .inl (fun _ => 0)))]) H := hP
  replace hD : va_D A ([(a, .inr (1, [.int 0, .int 0, .ref q_1, .ref q_2, .ref q_3, .null, .null, .null, .null, .int 0, .int 0, .int 0])), (q_1, .inl (G.2.1 2, 12, .inr (.inl (fun _ => 0)))), (q_2, .inl (G.2.1 1, 7, .inl (fun _ => 0))), (q_3, .inl (G.2.1 1, 7, .inl (fun _ => 0)))]) := hD
  refine lv_aload_n X.hx X.hb dX1_init_28 rfl (lv_at hl 0 rfl) ?_
  refine lv_bipush (v := 7) X.hx X.hb dX1_init_29 (by decide) ?_
  refine r_newi X hP hD hS hA 7 (by decide) (by decide) (Nat.le_of_ble_eq_true rfl) (Nat.le_of_ble_eq_true rfl) (Nat.le_of_ble_eq_true rfl) dX1_init_31 (fun q_4 H hP hD hS => ?_)
  refine W.widen (k := 4) (n := 33) (Nat.le_of_ble_eq_true rfl) (Nat.le_of_ble_eq_true rfl) ?_
  replace hP : va_P G.1 vwCl ([(a, .inr (1, [.int 0, .int 0, .ref q_1, .ref q_2, .ref q_3, .null, .null, .null, .null, .int 0, .int 0, .int 0])), (q_1, .inl (G.2.1 2, 12, .inr (.inl (fun _ => 0)))), (q_2, .inl (G.2.1 1, 7, .inl (fun _ => 0))), (q_3, .inl (G.2.1 1, 7, .inl (fun _ => 0))), (q_4, .inl (G.2.1 1, 7, .inl (fun _ => 0)))]) H := hP
  replace hD : va_D A ([(a, .inr (1, [.int 0, .int 0, .ref q_1, .ref q_2, .ref q_3, .null, .null, .null, .null, .int 0, .int 0, .int 0])), (q_1, .inl (G.2.1 2, 12, .inr (.inl (fun _ => 0)))), (q_2, .inl (G.2.1 1, 7, .inl (fun _ => 0))), (q_3, .inl (G.2.1 1, 7, .inl (fun _ => 0))), (q_4, .inl (G.2.1 1, 7, .inl (fun _ => 0)))]) := hD
  refine va_putF (D := G.1) (ci := 1) (v := .ref q_4) (C := RX1) (T := TX1) (N := 12) X.hx X.hb X.hts hu_1 tyX1 tyX1_ok nmX1 X.hown X.hK hP hD hS 0 rfl rfl 5 (by decide) (X.hts _ tw_182) (fun _ h9 => h9) rfl hin rfl (tyX1_ok 5 (by decide)) rfl rfl (Nat.le_of_ble_eq_true rfl) dX1_init_33 (fun H locs hP hD hS => ?_)
  replace hP : va_P G.1 vwCl ([(a, .inr (1, [.int 0, .int 0, .ref q_1, .ref q_2, .ref q_3, .ref q_4, .null, .null, .null, .int 0, .int 0, .int 0])), (q_1, .inl (G.2.1 2, 12, .inr (.inl (fun _ => 0)))), (q_2, .inl (G.2.1 1, 7, .inl (fun _ => 0))), (q_3, .inl (G.2.1 1, 7, .inl (fun _ => 0))), (q_4, .inl (G.2.1 1, 7, .inl (fun _ => 0)))]) H := hP
  replace hD : va_D A ([(a, .inr (1, [.int 0, .int 0, .ref q_1, .ref q_2, .ref q_3, .ref q_4, .null, .null, .null, .int 0, .int 0, .int 0])), (q_1, .inl (G.2.1 2, 12, .inr (.inl (fun _ => 0)))), (q_2, .inl (G.2.1 1, 7, .inl (fun _ => 0))), (q_3, .inl (G.2.1 1, 7, .inl (fun _ => 0))), (q_4, .inl (G.2.1 1, 7, .inl (fun _ => 0)))]) := hD
  refine lv_aload_n X.hx X.hb dX1_init_36 rfl (lv_at hl 0 rfl) ?_
  refine lv_bipush (v := 35) X.hx X.hb dX1_init_37 (by decide) ?_
  refine r_newi X hP hD hS hA 35 (by decide) (by decide) (Nat.le_of_ble_eq_true rfl) (Nat.le_of_ble_eq_true rfl) (Nat.le_of_ble_eq_true rfl) dX1_init_39 (fun q_5 H hP hD hS => ?_)
  refine W.widen (k := 5) (n := 68) (Nat.le_of_ble_eq_true rfl) (Nat.le_of_ble_eq_true rfl) ?_
  replace hP : va_P G.1 vwCl ([(a, .inr (1, [.int 0, .int 0, .ref q_1, .ref q_2, .ref q_3, .ref q_4, .null, .null, .null, .int 0, .int 0, .int 0])), (q_1, .inl (G.2.1 2, 12, .inr (.inl (fun _ => 0)))), (q_2, .inl (G.2.1 1, 7, .inl (fun _ => 0))), (q_3, .inl (G.2.1 1, 7, .inl (fun _ => 0))), (q_4, .inl (G.2.1 1, 7, .inl (fun _ => 0))), (q_5, .inl (G.2.1 1, 35, .inl (fun _ => 0)))]) H := hP
  replace hD : va_D A ([(a, .inr (1, [.int 0, .int 0, .ref q_1, .ref q_2, .ref q_3, .ref q_4, .null, .null, .null, .int 0, .int 0, .int 0])), (q_1, .inl (G.2.1 2, 12, .inr (.inl (fun _ => 0)))), (q_2, .inl (G.2.1 1, 7, .inl (fun _ => 0))), (q_3, .inl (G.2.1 1, 7, .inl (fun _ => 0))), (q_4, .inl (G.2.1 1, 7, .inl (fun _ => 0))), (q_5, .inl (G.2.1 1, 35, .inl (fun _ => 0)))]) := hD
  refine va_putF (D := G.1) (ci := 1) (v := .ref q_5) (C := RX1) (T := TX1) (N := 12) X.hx X.hb X.hts hu_1 tyX1 tyX1_ok nmX1 X.hown X.hK hP hD hS 0 rfl rfl 6 (by decide) (X.hts _ tw_187) (fun _ h9 => h9) rfl hin rfl (tyX1_ok 6 (by decide)) rfl rfl (Nat.le_of_ble_eq_true rfl) dX1_init_41 (fun H locs hP hD hS => ?_)
  replace hP : va_P G.1 vwCl ([(a, .inr (1, [.int 0, .int 0, .ref q_1, .ref q_2, .ref q_3, .ref q_4, .ref q_5, .null, .null, .int 0, .int 0, .int 0])), (q_1, .inl (G.2.1 2, 12, .inr (.inl (fun _ => 0)))), (q_2, .inl (G.2.1 1, 7, .inl (fun _ => 0))), (q_3, .inl (G.2.1 1, 7, .inl (fun _ => 0))), (q_4, .inl (G.2.1 1, 7, .inl (fun _ => 0))), (q_5, .inl (G.2.1 1, 35, .inl (fun _ => 0)))]) H := hP
  replace hD : va_D A ([(a, .inr (1, [.int 0, .int 0, .ref q_1, .ref q_2, .ref q_3, .ref q_4, .ref q_5, .null, .null, .int 0, .int 0, .int 0])), (q_1, .inl (G.2.1 2, 12, .inr (.inl (fun _ => 0)))), (q_2, .inl (G.2.1 1, 7, .inl (fun _ => 0))), (q_3, .inl (G.2.1 1, 7, .inl (fun _ => 0))), (q_4, .inl (G.2.1 1, 7, .inl (fun _ => 0))), (q_5, .inl (G.2.1 1, 35, .inl (fun _ => 0)))]) := hD
  refine lv_aload_n X.hx X.hb dX1_init_44 rfl (lv_at hl 0 rfl) ?_
  refine lv_bipush (v := 35) X.hx X.hb dX1_init_45 (by decide) ?_
  refine r_newi X hP hD hS hA 35 (by decide) (by decide) (Nat.le_of_ble_eq_true rfl) (Nat.le_of_ble_eq_true rfl) (Nat.le_of_ble_eq_true rfl) dX1_init_47 (fun q_6 H hP hD hS => ?_)
  refine W.widen (k := 6) (n := 103) (Nat.le_of_ble_eq_true rfl) (Nat.le_of_ble_eq_true rfl) ?_
  replace hP : va_P G.1 vwCl ([(a, .inr (1, [.int 0, .int 0, .ref q_1, .ref q_2, .ref q_3, .ref q_4, .ref q_5, .null, .null, .int 0, .int 0, .int 0])), (q_1, .inl (G.2.1 2, 12, .inr (.inl (fun _ => 0)))), (q_2, .inl (G.2.1 1, 7, .inl (fun _ => 0))), (q_3, .inl (G.2.1 1, 7, .inl (fun _ => 0))), (q_4, .inl (G.2.1 1, 7, .inl (fun _ => 0))), (q_5, .inl (G.2.1 1, 35, .inl (fun _ => 0))), (q_6, .inl (G.2.1 1, 35, .inl (fun _ => 0)))]) H := hP
  replace hD : va_D A ([(a, .inr (1, [.int 0, .int 0, .ref q_1, .ref q_2, .ref q_3, .ref q_4, .ref q_5, .null, .null, .int 0, .int 0, .int 0])), (q_1, .inl (G.2.1 2, 12, .inr (.inl (fun _ => 0)))), (q_2, .inl (G.2.1 1, 7, .inl (fun _ => 0))), (q_3, .inl (G.2.1 1, 7, .inl (fun _ => 0))), (q_4, .inl (G.2.1 1, 7, .inl (fun _ => 0))), (q_5, .inl (G.2.1 1, 35, .inl (fun _ => 0))), (q_6, .inl (G.2.1 1, 35, .inl (fun _ => 0)))]) := hD
  refine va_putF (D := G.1) (ci := 1) (v := .ref q_6) (C := RX1) (T := TX1) (N := 12) X.hx X.hb X.hts hu_1 tyX1 tyX1_ok nmX1 X.hown X.hK hP hD hS 0 rfl rfl 7 (by decide) (X.hts _ tw_190) (fun _ h9 => h9) rfl hin rfl (tyX1_ok 7 (by decide)) rfl rfl (Nat.le_of_ble_eq_true rfl) dX1_init_49 (fun H locs hP hD hS => ?_)
  replace hP : va_P G.1 vwCl ([(a, .inr (1, [.int 0, .int 0, .ref q_1, .ref q_2, .ref q_3, .ref q_4, .ref q_5, .ref q_6, .null, .int 0, .int 0, .int 0])), (q_1, .inl (G.2.1 2, 12, .inr (.inl (fun _ => 0)))), (q_2, .inl (G.2.1 1, 7, .inl (fun _ => 0))), (q_3, .inl (G.2.1 1, 7, .inl (fun _ => 0))), (q_4, .inl (G.2.1 1, 7, .inl (fun _ => 0))), (q_5, .inl (G.2.1 1, 35, .inl (fun _ => 0))), (q_6, .inl (G.2.1 1, 35, .inl (fun _ => 0)))]) H := hP
  replace hD : va_D A ([(a, .inr (1, [.int 0, .int 0, .ref q_1, .ref q_2, .ref q_3, .ref q_4, .ref q_5, .ref q_6, .null, .int 0, .int 0, .int 0])), (q_1, .inl (G.2.1 2, 12, .inr (.inl (fun _ => 0)))), (q_2, .inl (G.2.1 1, 7, .inl (fun _ => 0))), (q_3, .inl (G.2.1 1, 7, .inl (fun _ => 0))), (q_4, .inl (G.2.1 1, 7, .inl (fun _ => 0))), (q_5, .inl (G.2.1 1, 35, .inl (fun _ => 0))), (q_6, .inl (G.2.1 1, 35, .inl (fun _ => 0)))]) := hD
  refine lv_aload_n X.hx X.hb dX1_init_52 rfl (lv_at hl 0 rfl) ?_
  refine lv_bipush (v := 35) X.hx X.hb dX1_init_53 (by decide) ?_
  refine r_newi X hP hD hS hA 35 (by decide) (by decide) (Nat.le_of_ble_eq_true rfl) (Nat.le_of_ble_eq_true rfl) (Nat.le_of_ble_eq_true rfl) dX1_init_55 (fun q_7 H hP hD hS => ?_)
  refine W.widen (k := 7) (n := 138) (Nat.le_of_ble_eq_true rfl) (Nat.le_of_ble_eq_true rfl) ?_
  replace hP : va_P G.1 vwCl ([(a, .inr (1, [.int 0, .int 0, .ref q_1, .ref q_2, .ref q_3, .ref q_4, .ref q_5, .ref q_6, .null, .int 0, .int 0, .int 0])), (q_1, .inl (G.2.1 2, 12, .inr (.inl (fun _ => 0)))), (q_2, .inl (G.2.1 1, 7, .inl (fun _ => 0))), (q_3, .inl (G.2.1 1, 7, .inl (fun _ => 0))), (q_4, .inl (G.2.1 1, 7, .inl (fun _ => 0))), (q_5, .inl (G.2.1 1, 35, .inl (fun _ => 0))), (q_6, .inl (G.2.1 1, 35, .inl (fun _ => 0))), (q_7, .inl (G.2.1 1, 35, .inl (fun _ => 0)))]) H := hP
  replace hD : va_D A ([(a, .inr (1, [.int 0, .int 0, .ref q_1, .ref q_2, .ref q_3, .ref q_4, .ref q_5, .ref q_6, .null, .int 0, .int 0, .int 0])), (q_1, .inl (G.2.1 2, 12, .inr (.inl (fun _ => 0)))), (q_2, .inl (G.2.1 1, 7, .inl (fun _ => 0))), (q_3, .inl (G.2.1 1, 7, .inl (fun _ => 0))), (q_4, .inl (G.2.1 1, 7, .inl (fun _ => 0))), (q_5, .inl (G.2.1 1, 35, .inl (fun _ => 0))), (q_6, .inl (G.2.1 1, 35, .inl (fun _ => 0))), (q_7, .inl (G.2.1 1, 35, .inl (fun _ => 0)))]) := hD
  refine va_putF (D := G.1) (ci := 1) (v := .ref q_7) (C := RX1) (T := TX1) (N := 12) X.hx X.hb X.hts hu_1 tyX1 tyX1_ok nmX1 X.hown X.hK hP hD hS 0 rfl rfl 8 (by decide) (X.hts _ tw_194) (fun _ h9 => h9) rfl hin rfl (tyX1_ok 8 (by decide)) rfl rfl (Nat.le_of_ble_eq_true rfl) dX1_init_57 (fun H locs hP hD hS => ?_)
  replace hP : va_P G.1 vwCl ([(a, .inr (1, [.int 0, .int 0, .ref q_1, .ref q_2, .ref q_3, .ref q_4, .ref q_5, .ref q_6, .ref q_7, .int 0, .int 0, .int 0])), (q_1, .inl (G.2.1 2, 12, .inr (.inl (fun _ => 0)))), (q_2, .inl (G.2.1 1, 7, .inl (fun _ => 0))), (q_3, .inl (G.2.1 1, 7, .inl (fun _ => 0))), (q_4, .inl (G.2.1 1, 7, .inl (fun _ => 0))), (q_5, .inl (G.2.1 1, 35, .inl (fun _ => 0))), (q_6, .inl (G.2.1 1, 35, .inl (fun _ => 0))), (q_7, .inl (G.2.1 1, 35, .inl (fun _ => 0)))]) H := hP
  replace hD : va_D A ([(a, .inr (1, [.int 0, .int 0, .ref q_1, .ref q_2, .ref q_3, .ref q_4, .ref q_5, .ref q_6, .ref q_7, .int 0, .int 0, .int 0])), (q_1, .inl (G.2.1 2, 12, .inr (.inl (fun _ => 0)))), (q_2, .inl (G.2.1 1, 7, .inl (fun _ => 0))), (q_3, .inl (G.2.1 1, 7, .inl (fun _ => 0))), (q_4, .inl (G.2.1 1, 7, .inl (fun _ => 0))), (q_5, .inl (G.2.1 1, 35, .inl (fun _ => 0))), (q_6, .inl (G.2.1 1, 35, .inl (fun _ => 0))), (q_7, .inl (G.2.1 1, 35, .inl (fun _ => 0)))]) := hD
  refine lv_aload_n X.hx X.hb dX1_init_60 rfl (lv_at hl 0 rfl) ?_
  replace hP : va_P G.1 vwCl (gC G (ul [a, 0, 0, q_1, q_2, q_3, q_4, q_5, q_6, q_7]) (fun _ => 0) (fun _ _ => 0) (fun _ _ => 0)) H := hP.sub (ws' := (gC G (ul [a, 0, 0, q_1, q_2, q_3, q_4, q_5, q_6, q_7]) (fun _ => 0) (fun _ _ => 0) (fun _ _ => 0))) [0, 1, 2, 3, 4, 5, 6, 7] rfl
  replace hD : va_D A (gC G (ul [a, 0, 0, q_1, q_2, q_3, q_4, q_5, q_6, q_7]) (fun _ => 0) (fun _ _ => 0) (fun _ _ => 0)) := hD.sub (ws' := (gC G (ul [a, 0, 0, q_1, q_2, q_3, q_4, q_5, q_6, q_7]) (fun _ => 0) (fun _ _ => 0) (fun _ _ => 0))) [0, 1, 2, 3, 4, 5, 6, 7] (by decide) rfl
  refine r_cvv (As := []) (rest := []) X sm_X1_34 (c_X1_clear l G N (ul [a, 0, 0, q_1, q_2, q_3, q_4, q_5, q_6, q_7]) (fun _ => 0) (fun _ _ => 0) (fun _ _ => 0) hf_11) hP hD hS hA 0 rfl rfl [0, 1, 2, 3, 4, 5, 6, 7] rfl rfl rfl (wo := (gC G (ul [a, 0, 0, q_1, q_2, q_3, q_4, q_5, q_6, q_7]) iC_8 tC_9 sC_10)) rfl rfl hl.1 (lv_room (Nat.le_of_ble_eq_true rfl)) ⟨Nat.le_of_ble_eq_true rfl, Nat.le_of_ble_eq_true rfl⟩ ⟨Nat.le_of_ble_eq_true rfl, Nat.le_of_ble_eq_true rfl⟩ dX1_init_61 (fun H locs hP hD hS => ?_)
  refine W.widen (k := 7) (n := 138) (Nat.le_of_ble_eq_true rfl) (Nat.le_of_ble_eq_true rfl) ?_
  exact r_nret (W' := (fun u => gC G (u 0) iC_8 tC_9 sC_10)) X (ulf [(ul [a, 0, 0, q_1, q_2, q_3, q_4, q_5, q_6, q_7])]) rfl hP hD hS dX1_init_64

set_option maxHeartbeats 4000000 in
set_option maxRecDepth 100000 in
theorem c_X4_init (l : Launch) (G : GT) (N : Nat) (a b1 : Nat) : CN l G yX4_init cX4_init 2 1 6 140 [.ref a, .ref b1] [(a, .inr (4, [.null, .int 0, .int 0, .int 0, .int 0, .int 0, .null, .null, .null, .null, .null, .null, .int 0]))] a (fun u => gM G (u 0) b1 (fun _ => 0) (fun _ _ => 0)) := by
  refine CN.of (by decide) rfl (Nat.le_of_ble_eq_true rfl) ?_
  intro p e s m args below meth c A X hin hA hP hD hS ls hl
  have hl : lv_has ls 2 [(0, .ref a), (1, .ref b1)] := hl
  refine lv_aload_n X.hx X.hb dX4_init_0 rfl (lv_at hl 0 rfl) ?_
  refine r_objInit X tw_267 hl.1 (Nat.le_of_ble_eq_true rfl) (Nat.le_of_ble_eq_true rfl) dX4_init_1 ?_
  refine lv_aload_n X.hx X.hb dX4_init_4 rfl (lv_at hl 0 rfl) ?_
  refine lv_bipush (v := 7) X.hx X.hb dX4_init_5 (by decide) ?_
  refine r_newi X hP hD hS hA 7 (by decide) (by decide) (Nat.le_of_ble_eq_true rfl) (Nat.le_of_ble_eq_true rfl) (Nat.le_of_ble_eq_true rfl) dX4_init_7 (fun q_1 H hP hD hS => ?_)
  refine W.widen (k := 1) (n := 7) (Nat.le_of_ble_eq_true rfl) (Nat.le_of_ble_eq_true rfl) ?_
  replace hP : va_P G.1 vwCl ([(a, .inr (4, [.null, .int 0, .int 0, .int 0, .int 0, .int 0, .null, .null, .null, .null, .null, .null, .int 0])), (q_1, .inl (G.2.1 1, 7, .inl (fun _ => 0)))]) H := hP
  replace hD : va_D A ([(a, .inr (4, [.null, .int 0, .int 0, .int 0, .int 0, .int 0, .null, .null, .null, .null, .null, .null, .int 0])), (q_1, .inl (G.2.1 1, 7, .inl (fun _ => 0)))]) := hD
  refine va_putF (D := G.1) (ci := 4) (v := .ref q_1) (C := RX4) (T := TX4) (N := 13) X.hx X.hb X.hts hu_4 tyX4 tyX4_ok nmX4 X.hown X.hK hP hD hS 0 rfl rfl 6 (by decide) (X.hts _ tw_284) (fun _ h9 => h9) rfl hin rfl (tyX4_ok 6 (by decide)) rfl rfl (Nat.le_of_ble_eq_true rfl) dX4_init_9 (fun H locs hP hD hS => ?_)
  replace hP : va_P G.1 vwCl ([(a, .inr (4, [.null, .int 0, .int 0, .int 0, .int 0, .int 0, .ref q_1, .null, .null, .null, .null, .null, .int 0])), (q_1, .inl (G.2.1 1, 7, .inl (fun _ => 0)))]) H := hP
  replace hD : va_D A ([(a, .inr (4, [.null, .int 0, .int 0, .int 0, .int 0, .int 0, .ref q_1, .null, .null, .null, .null, .null, .int 0])), (q_1, .inl (G.2.1 1, 7, .inl (fun _ => 0)))]) := hD
  refine lv_aload_n X.hx X.hb dX4_init_12 rfl (lv_at hl 0 rfl) ?_
  refine lv_bipush (v := 7) X.hx X.hb dX4_init_13 (by decide) ?_
  refine r_newi X hP hD hS hA 7 (by decide) (by decide) (Nat.le_of_ble_eq_true rfl) (Nat.le_of_ble_eq_true rfl) (Nat.le_of_ble_eq_true rfl) dX4_init_15 (fun q_2 H hP hD hS => ?_)
  refine W.widen (k := 2) (n := 14) (Nat.le_of_ble_eq_true rfl) (Nat.le_of_ble_eq_true rfl) ?_
  replace hP : va_P G.1 vwCl ([(a, .inr (4, [.null, .int 0, .int 0, .int 0, .int 0, .int 0, .ref q_1, .null, .null, .null, .null, .null, .int 0])), (q_1, .inl (G.2.1 1, 7, .inl (fun _ => 0))), (q_2, .inl (G.2.1 1, 7, .inl (fun _ => 0)))]) H := hP
  replace hD : va_D A ([(a, .inr (4, [.null, .int 0, .int 0, .int 0, .int 0, .int 0, .ref q_1, .null, .null, .null, .null, .null, .int 0])), (q_1, .inl (G.2.1 1, 7, .inl (fun _ => 0))), (q_2, .inl (G.2.1 1, 7, .inl (fun _ => 0)))]) := hD
  refine va_putF (D := G.1) (ci := 4) (v := .ref q_2) (C := RX4) (T := TX4) (N := 13) X.hx X.hb X.hts hu_4 tyX4 tyX4_ok nmX4 X.hown X.hK hP hD hS 0 rfl rfl 7 (by decide) (X.hts _ tw_287) (fun _ h9 => h9) rfl hin rfl (tyX4_ok 7 (by decide)) rfl rfl (Nat.le_of_ble_eq_true rfl) dX4_init_17 (fun H locs hP hD hS => ?_)
  replace hP : va_P G.1 vwCl ([(a, .inr (4, [.null, .int 0, .int 0, .int 0, .int 0, .int 0, .ref q_1, .ref q_2, .null, .null, .null, .null, .int 0])), (q_1, .inl (G.2.1 1, 7, .inl (fun _ => 0))), (q_2, .inl (G.2.1 1, 7, .inl (fun _ => 0)))]) H := hP
  replace hD : va_D A ([(a, .inr (4, [.null, .int 0, .int 0, .int 0, .int 0, .int 0, .ref q_1, .ref q_2, .null, .null, .null, .null, .int 0])), (q_1, .inl (G.2.1 1, 7, .inl (fun _ => 0))), (q_2, .inl (G.2.1 1, 7, .inl (fun _ => 0)))]) := hD
  refine lv_aload_n X.hx X.hb dX4_init_20 rfl (lv_at hl 0 rfl) ?_
  refine lv_bipush (v := 7) X.hx X.hb dX4_init_21 (by decide) ?_
  refine r_newi X hP hD hS hA 7 (by decide) (by decide) (Nat.le_of_ble_eq_true rfl) (Nat.le_of_ble_eq_true rfl) (Nat.le_of_ble_eq_true rfl) dX4_init_23 (fun q_3 H hP hD hS => ?_)
  refine W.widen (k := 3) (n := 21) (Nat.le_of_ble_eq_true rfl) (Nat.le_of_ble_eq_true rfl) ?_
  replace hP : va_P G.1 vwCl ([(a, .inr (4, [.null, .int 0, .int 0, .int 0, .int 0, .int 0, .ref q_1, .ref q_2, .null, .null, .null, .null, .int 0])), (q_1, .inl (G.2.1 1, 7, .inl (fun _ => 0))), (q_2, .inl (G.2.1 1, 7, .inl (fun _ => 0))), (q_3, .inl (G.2.1 1, 7, .inl (fun _ => 0)))]) H := hP
  replace hD : va_D A ([(a, .inr (4, [.null, .int 0, .int 0, .int 0, .int 0, .int 0, .ref q_1, .ref q_2, .null, .null, .null, .null, .int 0])), (q_1, .inl (G.2.1 1, 7, .inl (fun _ => 0))), (q_2, .inl (G.2.1 1, 7, .inl (fun _ => 0))), (q_3, .inl (G.2.1 1, 7, .inl (fun _ => 0)))]) := hD
  refine va_putF (D := G.1) (ci := 4) (v := .ref q_3) (C := RX4) (T := TX4) (N := 13) X.hx X.hb X.hts hu_4 tyX4 tyX4_ok nmX4 X.hown X.hK hP hD hS 0 rfl rfl 8 (by decide) (X.hts _ tw_290) (fun _ h9 => h9) rfl hin rfl (tyX4_ok 8 (by decide)) rfl rfl (Nat.le_of_ble_eq_true rfl) dX4_init_25 (fun H locs hP hD hS => ?_)
  replace hP : va_P G.1 vwCl ([(a, .inr (4, [.null, .int 0, .int 0, .int 0, .int 0, .int 0, .ref q_1, .ref q_2, .ref q_3, .null, .null, .null, .int 0])), (q_1, .inl (G.2.1 1, 7, .inl (fun _ => 0))), (q_2, .inl (G.2.1 1, 7, .inl (fun _ => 0))), (q_3, .inl (G.2.1 1, 7, .inl (fun _ => 0)))]) H := hP
  replace hD : va_D A ([(a, .inr (4, [.null, .int 0, .int 0, .int 0, .int 0, .int 0, .ref q_1, .ref q_2, .ref q_3, .null, .null, .null, .int 0])), (q_1, .inl (G.2.1 1, 7, .inl (fun _ => 0))), (q_2, .inl (G.2.1 1, 7, .inl (fun _ => 0))), (q_3, .inl (G.2.1 1, 7, .inl (fun _ => 0)))]) := hD
  refine lv_aload_n X.hx X.hb dX4_init_28 rfl (lv_at hl 0 rfl) ?_
  refine lv_bipush (v := 35) X.hx X.hb dX4_init_29 (by decide) ?_
  refine r_newi X hP hD hS hA 35 (by decide) (by decide) (Nat.le_of_ble_eq_true rfl) (Nat.le_of_ble_eq_true rfl) (Nat.le_of_ble_eq_true rfl) dX4_init_31 (fun q_4 H hP hD hS => ?_)
  refine W.widen (k := 4) (n := 56) (Nat.le_of_ble_eq_true rfl) (Nat.le_of_ble_eq_true rfl) ?_
  replace hP : va_P G.1 vwCl ([(a, .inr (4, [.null, .int 0, .int 0, .int 0, .int 0, .int 0, .ref q_1, .ref q_2, .ref q_3, .null, .null, .null, .int 0])), (q_1, .inl (G.2.1 1, 7, .inl (fun _ => 0))), (q_2, .inl (G.2.1 1, 7, .inl (fun _ => 0))), (q_3, .inl (G.2.1 1, 7, .inl (fun _ => 0))), (q_4, .inl (G.2.1 1, 35, .inl (fun _ => 0)))]) H := hP
  replace hD : va_D A ([(a, .inr (4, [.null, .int 0, .int 0, .int 0, .int 0, .int 0, .ref q_1, .ref q_2, .ref q_3, .null, .null, .null, .int 0])), (q_1, .inl (G.2.1 1, 7, .inl (fun _ => 0))), (q_2, .inl (G.2.1 1, 7, .inl (fun _ => 0))), (q_3, .inl (G.2.1 1, 7, .inl (fun _ => 0))), (q_4, .inl (G.2.1 1, 35, .inl (fun _ => 0)))]) := hD
  refine va_putF (D := G.1) (ci := 4) (v := .ref q_4) (C := RX4) (T := TX4) (N := 13) X.hx X.hb X.hts hu_4 tyX4 tyX4_ok nmX4 X.hown X.hK hP hD hS 0 rfl rfl 9 (by decide) (X.hts _ tw_291) (fun _ h9 => h9) rfl hin rfl (tyX4_ok 9 (by decide)) rfl rfl (Nat.le_of_ble_eq_true rfl) dX4_init_33 (fun H locs hP hD hS => ?_)
  replace hP : va_P G.1 vwCl ([(a, .inr (4, [.null, .int 0, .int 0, .int 0, .int 0, .int 0, .ref q_1, .ref q_2, .ref q_3, .ref q_4, .null, .null, .int 0])), (q_1, .inl (G.2.1 1, 7, .inl (fun _ => 0))), (q_2, .inl (G.2.1 1, 7, .inl (fun _ => 0))), (q_3, .inl (G.2.1 1, 7, .inl (fun _ => 0))), (q_4, .inl (G.2.1 1, 35, .inl (fun _ => 0)))]) H := hP
  replace hD : va_D A ([(a, .inr (4, [.null, .int 0, .int 0, .int 0, .int 0, .int 0, .ref q_1, .ref q_2, .ref q_3, .ref q_4, .null, .null, .int 0])), (q_1, .inl (G.2.1 1, 7, .inl (fun _ => 0))), (q_2, .inl (G.2.1 1, 7, .inl (fun _ => 0))), (q_3, .inl (G.2.1 1, 7, .inl (fun _ => 0))), (q_4, .inl (G.2.1 1, 35, .inl (fun _ => 0)))]) := hD
  refine lv_aload_n X.hx X.hb dX4_init_36 rfl (lv_at hl 0 rfl) ?_
  refine lv_bipush (v := 35) X.hx X.hb dX4_init_37 (by decide) ?_
  refine r_newi X hP hD hS hA 35 (by decide) (by decide) (Nat.le_of_ble_eq_true rfl) (Nat.le_of_ble_eq_true rfl) (Nat.le_of_ble_eq_true rfl) dX4_init_39 (fun q_5 H hP hD hS => ?_)
  refine W.widen (k := 5) (n := 91) (Nat.le_of_ble_eq_true rfl) (Nat.le_of_ble_eq_true rfl) ?_
  replace hP : va_P G.1 vwCl ([(a, .inr (4, [.null, .int 0, .int 0, .int 0, .int 0, .int 0, .ref q_1, .ref q_2, .ref q_3, .ref q_4, .null, .null, .int 0])), (q_1, .inl (G.2.1 1, 7, .inl (fun _ => 0))), (q_2, .inl (G.2.1 1, 7, .inl (fun _ => 0))), (q_3, .inl (G.2.1 1, 7, .inl (fun _ => 0))), (q_4, .inl (G.2.1 1, 35, .inl (fun _ => 0))), (q_5, .inl (G.2.1 1, 35, .inl (fun _ => 0)))]) H := hP
  replace hD : va_D A ([(a, .inr (4, [.null, .int 0, .int 0, .int 0, .int 0, .int 0, .ref q_1, .ref q_2, .ref q_3, .ref q_4, .null, .null, .int 0])), (q_1, .inl (G.2.1 1, 7, .inl (fun _ => 0))), (q_2, .inl (G.2.1 1, 7, .inl (fun _ => 0))), (q_3, .inl (G.2.1 1, 7, .inl (fun _ => 0))), (q_4, .inl (G.2.1 1, 35, .inl (fun _ => 0))), (q_5, .inl (G.2.1 1, 35, .inl (fun _ => 0)))]) := hD
  refine va_putF (D := G.1) (ci := 4) (v := .ref q_5) (C := RX4) (T := TX4) (N := 13) X.hx X.hb X.hts hu_4 tyX4 tyX4_ok nmX4 X.hown X.hK hP hD hS 0 rfl rfl 10 (by decide) (X.hts _ tw_294) (fun _ h9 => h9) rfl hin rfl (tyX4_ok 10 (by decide)) rfl rfl (Nat.le_of_ble_eq_true rfl) dX4_init_41 (fun H locs hP hD hS => ?_)
  replace hP : va_P G.1 vwCl ([(a, .inr (4, [.null, .int 0, .int 0, .int 0, .int 0, .int 0, .ref q_1, .ref q_2, .ref q_3, .ref q_4, .ref q_5, .null, .int 0])), (q_1, .inl (G.2.1 1, 7, .inl (fun _ => 0))), (q_2, .inl (G.2.1 1, 7, .inl (fun _ => 0))), (q_3, .inl (G.2.1 1, 7, .inl (fun _ => 0))), (q_4, .inl (G.2.1 1, 35, .inl (fun _ => 0))), (q_5, .inl (G.2.1 1, 35, .inl (fun _ => 0)))]) H := hP
  replace hD : va_D A ([(a, .inr (4, [.null, .int 0, .int 0, .int 0, .int 0, .int 0, .ref q_1, .ref q_2, .ref q_3, .ref q_4, .ref q_5, .null, .int 0])), (q_1, .inl (G.2.1 1, 7, .inl (fun _ => 0))), (q_2, .inl (G.2.1 1, 7, .inl (fun _ => 0))), (q_3, .inl (G.2.1 1, 7, .inl (fun _ => 0))), (q_4, .inl (G.2.1 1, 35, .inl (fun _ => 0))), (q_5, .inl (G.2.1 1, 35, .inl (fun _ => 0)))]) := hD
  refine lv_aload_n X.hx X.hb dX4_init_44 rfl (lv_at hl 0 rfl) ?_
  refine lv_bipush (v := 49) X.hx X.hb dX4_init_45 (by decide) ?_
  refine r_newi X hP hD hS hA 49 (by decide) (by decide) (Nat.le_of_ble_eq_true rfl) (Nat.le_of_ble_eq_true rfl) (Nat.le_of_ble_eq_true rfl) dX4_init_47 (fun q_6 H hP hD hS => ?_)
  refine W.widen (k := 6) (n := 140) (Nat.le_of_ble_eq_true rfl) (Nat.le_of_ble_eq_true rfl) ?_
  replace hP : va_P G.1 vwCl ([(a, .inr (4, [.null, .int 0, .int 0, .int 0, .int 0, .int 0, .ref q_1, .ref q_2, .ref q_3, .ref q_4, .ref q_5, .null, .int 0])), (q_1, .inl (G.2.1 1, 7, .inl (fun _ => 0))), (q_2, .inl (G.2.1 1, 7, .inl (fun _ => 0))), (q_3, .inl (G.2.1 1, 7, .inl (fun _ => 0))), (q_4, .inl (G.2.1 1, 35, .inl (fun _ => 0))), (q_5, .inl (G.2.1 1, 35, .inl (fun _ => 0))), (q_6, .inl (G.2.1 1, 49, .inl (fun _ => 0)))]) H := hP
  replace hD : va_D A ([(a, .inr (4, [.null, .int 0, .int 0, .int 0, .int 0, .int 0, .ref q_1, .ref q_2, .ref q_3, .ref q_4, .ref q_5, .null, .int 0])), (q_1, .inl (G.2.1 1, 7, .inl (fun _ => 0))), (q_2, .inl (G.2.1 1, 7, .inl (fun _ => 0))), (q_3, .inl (G.2.1 1, 7, .inl (fun _ => 0))), (q_4, .inl (G.2.1 1, 35, .inl (fun _ => 0))), (q_5, .inl (G.2.1 1, 35, .inl (fun _ => 0))), (q_6, .inl (G.2.1 1, 49, .inl (fun _ => 0)))]) := hD
  refine va_putF (D := G.1) (ci := 4) (v := .ref q_6) (C := RX4) (T := TX4) (N := 13) X.hx X.hb X.hts hu_4 tyX4 tyX4_ok nmX4 X.hown X.hK hP hD hS 0 rfl rfl 11 (by decide) (X.hts _ tw_298) (fun _ h9 => h9) rfl hin rfl (tyX4_ok 11 (by decide)) rfl rfl (Nat.le_of_ble_eq_true rfl) dX4_init_49 (fun H locs hP hD hS => ?_)
  replace hP : va_P G.1 vwCl ([(a, .inr (4, [.null, .int 0, .int 0, .int 0, .int 0, .int 0, .ref q_1, .ref q_2, .ref q_3, .ref q_4, .ref q_5, .ref q_6, .int 0])), (q_1, .inl (G.2.1 1, 7, .inl (fun _ => 0))), (q_2, .inl (G.2.1 1, 7, .inl (fun _ => 0))), (q_3, .inl (G.2.1 1, 7, .inl (fun _ => 0))), (q_4, .inl (G.2.1 1, 35, .inl (fun _ => 0))), (q_5, .inl (G.2.1 1, 35, .inl (fun _ => 0))), (q_6, .inl (G.2.1 1, 49, .inl (fun _ => 0)))]) H := hP
  replace hD : va_D A ([(a, .inr (4, [.null, .int 0, .int 0, .int 0, .int 0, .int 0, .ref q_1, .ref q_2, .ref q_3, .ref q_4, .ref q_5, .ref q_6, .int 0])), (q_1, .inl (G.2.1 1, 7, .inl (fun _ => 0))), (q_2, .inl (G.2.1 1, 7, .inl (fun _ => 0))), (q_3, .inl (G.2.1 1, 7, .inl (fun _ => 0))), (q_4, .inl (G.2.1 1, 35, .inl (fun _ => 0))), (q_5, .inl (G.2.1 1, 35, .inl (fun _ => 0))), (q_6, .inl (G.2.1 1, 49, .inl (fun _ => 0)))]) := hD
  refine lv_aload_n X.hx X.hb dX4_init_52 rfl (lv_at hl 0 rfl) ?_
  refine lv_aload_n X.hx X.hb dX4_init_53 rfl (lv_at hl 1 rfl) ?_
  refine va_putF (D := G.1) (ci := 4) (v := .ref b1) (C := RX4) (T := TX4) (N := 13) X.hx X.hb X.hts hu_4 tyX4 tyX4_ok nmX4 X.hown X.hK hP hD hS 0 rfl rfl 0 (by decide) (X.hts _ tw_268) (fun _ h9 => h9) rfl hin rfl (tyX4_ok 0 (by decide)) rfl rfl (Nat.le_of_ble_eq_true rfl) dX4_init_54 (fun H locs hP hD hS => ?_)
  replace hP : va_P G.1 vwCl ([(a, .inr (4, [.ref b1, .int 0, .int 0, .int 0, .int 0, .int 0, .ref q_1, .ref q_2, .ref q_3, .ref q_4, .ref q_5, .ref q_6, .int 0])), (q_1, .inl (G.2.1 1, 7, .inl (fun _ => 0))), (q_2, .inl (G.2.1 1, 7, .inl (fun _ => 0))), (q_3, .inl (G.2.1 1, 7, .inl (fun _ => 0))), (q_4, .inl (G.2.1 1, 35, .inl (fun _ => 0))), (q_5, .inl (G.2.1 1, 35, .inl (fun _ => 0))), (q_6, .inl (G.2.1 1, 49, .inl (fun _ => 0)))]) H := hP
  replace hD : va_D A ([(a, .inr (4, [.ref b1, .int 0, .int 0, .int 0, .int 0, .int 0, .ref q_1, .ref q_2, .ref q_3, .ref q_4, .ref q_5, .ref q_6, .int 0])), (q_1, .inl (G.2.1 1, 7, .inl (fun _ => 0))), (q_2, .inl (G.2.1 1, 7, .inl (fun _ => 0))), (q_3, .inl (G.2.1 1, 7, .inl (fun _ => 0))), (q_4, .inl (G.2.1 1, 35, .inl (fun _ => 0))), (q_5, .inl (G.2.1 1, 35, .inl (fun _ => 0))), (q_6, .inl (G.2.1 1, 49, .inl (fun _ => 0)))]) := hD
  replace hP : va_P G.1 vwCl (gM G (ul [a, 0, 0, 0, 0, 0, 0, q_1, q_2, q_3, q_4, q_5, q_6]) b1 (fun _ => 0) (fun _ _ => 0)) H := hP.sub (ws' := (gM G (ul [a, 0, 0, 0, 0, 0, 0, q_1, q_2, q_3, q_4, q_5, q_6]) b1 (fun _ => 0) (fun _ _ => 0))) [0, 1, 2, 3, 4, 5, 6] rfl
  replace hD : va_D A (gM G (ul [a, 0, 0, 0, 0, 0, 0, q_1, q_2, q_3, q_4, q_5, q_6]) b1 (fun _ => 0) (fun _ _ => 0)) := hD.sub (ws' := (gM G (ul [a, 0, 0, 0, 0, 0, 0, q_1, q_2, q_3, q_4, q_5, q_6]) b1 (fun _ => 0) (fun _ _ => 0))) [0, 1, 2, 3, 4, 5, 6] (by decide) rfl
  refine W.widen (k := 6) (n := 140) (Nat.le_of_ble_eq_true rfl) (Nat.le_of_ble_eq_true rfl) ?_
  exact r_nret (W' := (fun u => gM G (u 0) b1 (fun _ => 0) (fun _ _ => 0))) X (ulf [(ul [a, 0, 0, 0, 0, 0, 0, q_1, q_2, q_3, q_4, q_5, q_6])]) rfl hP hD hS dX4_init_57

set_option maxHeartbeats 4000000 in
set_option maxRecDepth 100000 in
theorem c_X0_init (l : Launch) (G : GT) (N : Nat) (a b1 b2 : Nat) : CN l G yX0_init cX0_init 3 1 4 160 [.ref a, .ref b1, .ref b2] [(a, .inr (0, [.null, .null, .null, .null, .null, .null, .int 0, .int 0, .int 0, .int 0, .int 0, .int 0]))] a (fun u => gB G (u 0) b1 b2 (fun _ _ => 0) (fun _ => 0)) := by
  refine CN.of (by decide) rfl (Nat.le_of_ble_eq_true rfl) ?_
  intro p e s m args below meth c A X hin hA hP hD hS ls hl
  have hl : lv_has ls 3 [(0, .ref a), (1, .ref b1), (2, .ref b2)] := hl
  refine lv_aload_n X.hx X.hb dX0_init_0 rfl (lv_at hl 0 rfl) ?_
  refine r_objInit X tw_385 hl.1 (Nat.le_of_ble_eq_true rfl) (Nat.le_of_ble_eq_true rfl) dX0_init_1 ?_
  refine lv_aload_n X.hx X.hb dX0_init_4 rfl (lv_at hl 0 rfl) ?_
  refine lv_bipush (v := 40) X.hx X.hb dX0_init_5 (by decide) ?_
  refine r_newi X hP hD hS hA 40 (by decide) (by decide) (Nat.le_of_ble_eq_true rfl) (Nat.le_of_ble_eq_true rfl) (Nat.le_of_ble_eq_true rfl) dX0_init_7 (fun q_1 H hP hD hS => ?_)
  refine W.widen (k := 1) (n := 40) (Nat.le_of_ble_eq_true rfl) (Nat.le_of_ble_eq_true rfl) ?_
  replace hP : va_P G.1 vwCl ([(a, .inr (0, [.null, .null, .null, .null, .null, .null, .int 0, .int 0, .int 0, .int 0, .int 0, .int 0])), (q_1, .inl (G.2.1 1, 40, .inl (fun _ => 0)))]) H := hP
  replace hD : va_D A ([(a, .inr (0, [.null, .null, .null, .null, .null, .null, .int 0, .int 0, .int 0, .int 0, .int 0, .int 0])), (q_1, .inl (G.2.1 1, 40, .inl (fun _ => 0)))]) := hD
  refine va_putF (D := G.1) (ci := 0) (v := .ref q_1) (C := RX0) (T := TX0) (N := 12) X.hx X.hb X.hts hu_0 tyX0 tyX0_ok nmX0 X.hown X.hK hP hD hS 0 rfl rfl 2 (by decide) (X.hts _ tw_388) (fun _ h9 => h9) rfl hin rfl (tyX0_ok 2 (by decide)) rfl rfl (Nat.le_of_ble_eq_true rfl) dX0_init_9 (fun H locs hP hD hS => ?_)
  replace hP : va_P G.1 vwCl ([(a, .inr (0, [.null, .null, .ref q_1, .null, .null, .null, .int 0, .int 0, .int 0, .int 0, .int 0, .int 0])), (q_1, .inl (G.2.1 1, 40, .inl (fun _ => 0)))]) H := hP
  replace hD : va_D A ([(a, .inr (0, [.null, .null, .ref q_1, .null, .null, .null, .int 0, .int 0, .int 0, .int 0, .int 0, .int 0])), (q_1, .inl (G.2.1 1, 40, .inl (fun _ => 0)))]) := hD
  refine lv_aload_n X.hx X.hb dX0_init_12 rfl (lv_at hl 0 rfl) ?_
  refine lv_bipush (v := 40) X.hx X.hb dX0_init_13 (by decide) ?_
  refine r_newi X hP hD hS hA 40 (by decide) (by decide) (Nat.le_of_ble_eq_true rfl) (Nat.le_of_ble_eq_true rfl) (Nat.le_of_ble_eq_true rfl) dX0_init_15 (fun q_2 H hP hD hS => ?_)
  refine W.widen (k := 2) (n := 80) (Nat.le_of_ble_eq_true rfl) (Nat.le_of_ble_eq_true rfl) ?_
  replace hP : va_P G.1 vwCl ([(a, .inr (0, [.null, .null, .ref q_1, .null, .null, .null, .int 0, .int 0, .int 0, .int 0, .int 0, .int 0])), (q_1, .inl (G.2.1 1, 40, .inl (fun _ => 0))), (q_2, .inl (G.2.1 1, 40, .inl (fun _ => 0)))]) H := hP
  replace hD : va_D A ([(a, .inr (0, [.null, .null, .ref q_1, .null, .null, .null, .int 0, .int 0, .int 0, .int 0, .int 0, .int 0])), (q_1, .inl (G.2.1 1, 40, .inl (fun _ => 0))), (q_2, .inl (G.2.1 1, 40, .inl (fun _ => 0)))]) := hD
  refine va_putF (D := G.1) (ci := 0) (v := .ref q_2) (C := RX0) (T := TX0) (N := 12) X.hx X.hb X.hts hu_0 tyX0 tyX0_ok nmX0 X.hown X.hK hP hD hS 0 rfl rfl 3 (by decide) (X.hts _ tw_389) (fun _ h9 => h9) rfl hin rfl (tyX0_ok 3 (by decide)) rfl rfl (Nat.le_of_ble_eq_true rfl) dX0_init_17 (fun H locs hP hD hS => ?_)
  replace hP : va_P G.1 vwCl ([(a, .inr (0, [.null, .null, .ref q_1, .ref q_2, .null, .null, .int 0, .int 0, .int 0, .int 0, .int 0, .int 0])), (q_1, .inl (G.2.1 1, 40, .inl (fun _ => 0))), (q_2, .inl (G.2.1 1, 40, .inl (fun _ => 0)))]) H := hP
  replace hD : va_D A ([(a, .inr (0, [.null, .null, .ref q_1, .ref q_2, .null, .null, .int 0, .int 0, .int 0, .int 0, .int 0, .int 0])), (q_1, .inl (G.2.1 1, 40, .inl (fun _ => 0))), (q_2, .inl (G.2.1 1, 40, .inl (fun _ => 0)))]) := hD
  refine lv_aload_n X.hx X.hb dX0_init_20 rfl (lv_at hl 0 rfl) ?_
  refine lv_bipush (v := 40) X.hx X.hb dX0_init_21 (by decide) ?_
  refine r_newi X hP hD hS hA 40 (by decide) (by decide) (Nat.le_of_ble_eq_true rfl) (Nat.le_of_ble_eq_true rfl) (Nat.le_of_ble_eq_true rfl) dX0_init_23 (fun q_3 H hP hD hS => ?_)
  refine W.widen (k := 3) (n := 120) (Nat.le_of_ble_eq_true rfl) (Nat.le_of_ble_eq_true rfl) ?_
  replace hP : va_P G.1 vwCl ([(a, .inr (0, [.null, .null, .ref q_1, .ref q_2, .null, .null, .int 0, .int 0, .int 0, .int 0, .int 0, .int 0])), (q_1, .inl (G.2.1 1, 40, .inl (fun _ => 0))), (q_2, .inl (G.2.1 1, 40, .inl (fun _ => 0))), (q_3, .inl (G.2.1 1, 40, .inl (fun _ => 0)))]) H := hP
  replace hD : va_D A ([(a, .inr (0, [.null, .null, .ref q_1, .ref q_2, .null, .null, .int 0, .int 0, .int 0, .int 0, .int 0, .int 0])), (q_1, .inl (G.2.1 1, 40, .inl (fun _ => 0))), (q_2, .inl (G.2.1 1, 40, .inl (fun _ => 0))), (q_3, .inl (G.2.1 1, 40, .inl (fun _ => 0)))]) := hD
  refine va_putF (D := G.1) (ci := 0) (v := .ref q_3) (C := RX0) (T := TX0) (N := 12) X.hx X.hb X.hts hu_0 tyX0 tyX0_ok nmX0 X.hown X.hK hP hD hS 0 rfl rfl 4 (by decide) (X.hts _ tw_390) (fun _ h9 => h9) rfl hin rfl (tyX0_ok 4 (by decide)) rfl rfl (Nat.le_of_ble_eq_true rfl) dX0_init_25 (fun H locs hP hD hS => ?_)
  replace hP : va_P G.1 vwCl ([(a, .inr (0, [.null, .null, .ref q_1, .ref q_2, .ref q_3, .null, .int 0, .int 0, .int 0, .int 0, .int 0, .int 0])), (q_1, .inl (G.2.1 1, 40, .inl (fun _ => 0))), (q_2, .inl (G.2.1 1, 40, .inl (fun _ => 0))), (q_3, .inl (G.2.1 1, 40, .inl (fun _ => 0)))]) H := hP
  replace hD : va_D A ([(a, .inr (0, [.null, .null, .ref q_1, .ref q_2, .ref q_3, .null, .int 0, .int 0, .int 0, .int 0, .int 0, .int 0])), (q_1, .inl (G.2.1 1, 40, .inl (fun _ => 0))), (q_2, .inl (G.2.1 1, 40, .inl (fun _ => 0))), (q_3, .inl (G.2.1 1, 40, .inl (fun _ => 0)))]) := hD
  refine lv_aload_n X.hx X.hb dX0_init_28 rfl (lv_at hl 0 rfl) ?_
  refine lv_bipush (v := 40) X.hx X.hb dX0_init_29 (by decide) ?_
  refine r_newi X hP hD hS hA 40 (by decide) (by decide) (Nat.le_of_ble_eq_true rfl) (Nat.le_of_ble_eq_true rfl) (Nat.le_of_ble_eq_true rfl) dX0_init_31 (fun q_4 H hP hD hS => ?_)
  refine W.widen (k := 4) (n := 160) (Nat.le_of_ble_eq_true rfl) (Nat.le_of_ble_eq_true rfl) ?_
  replace hP : va_P G.1 vwCl ([(a, .inr (0, [.null, .null, .ref q_1, .ref q_2, .ref q_3, .null, .int 0, .int 0, .int 0, .int 0, .int 0, .int 0])), (q_1, .inl (G.2.1 1, 40, .inl (fun _ => 0))), (q_2, .inl (G.2.1 1, 40, .inl (fun _ => 0))), (q_3, .inl (G.2.1 1, 40, .inl (fun _ => 0))), (q_4, .inl (G.2.1 1, 40, .inl (fun _ => 0)))]) H := hP
  replace hD : va_D A ([(a, .inr (0, [.null, .null, .ref q_1, .ref q_2, .ref q_3, .null, .int 0, .int 0, .int 0, .int 0, .int 0, .int 0])), (q_1, .inl (G.2.1 1, 40, .inl (fun _ => 0))), (q_2, .inl (G.2.1 1, 40, .inl (fun _ => 0))), (q_3, .inl (G.2.1 1, 40, .inl (fun _ => 0))), (q_4, .inl (G.2.1 1, 40, .inl (fun _ => 0)))]) := hD
  refine va_putF (D := G.1) (ci := 0) (v := .ref q_4) (C := RX0) (T := TX0) (N := 12) X.hx X.hb X.hts hu_0 tyX0 tyX0_ok nmX0 X.hown X.hK hP hD hS 0 rfl rfl 5 (by decide) (X.hts _ tw_391) (fun _ h9 => h9) rfl hin rfl (tyX0_ok 5 (by decide)) rfl rfl (Nat.le_of_ble_eq_true rfl) dX0_init_33 (fun H locs hP hD hS => ?_)
  replace hP : va_P G.1 vwCl ([(a, .inr (0, [.null, .null, .ref q_1, .ref q_2, .ref q_3, .ref q_4, .int 0, .int 0, .int 0, .int 0, .int 0, .int 0])), (q_1, .inl (G.2.1 1, 40, .inl (fun _ => 0))), (q_2, .inl (G.2.1 1, 40, .inl (fun _ => 0))), (q_3, .inl (G.2.1 1, 40, .inl (fun _ => 0))), (q_4, .inl (G.2.1 1, 40, .inl (fun _ => 0)))]) H := hP
  replace hD : va_D A ([(a, .inr (0, [.null, .null, .ref q_1, .ref q_2, .ref q_3, .ref q_4, .int 0, .int 0, .int 0, .int 0, .int 0, .int 0])), (q_1, .inl (G.2.1 1, 40, .inl (fun _ => 0))), (q_2, .inl (G.2.1 1, 40, .inl (fun _ => 0))), (q_3, .inl (G.2.1 1, 40, .inl (fun _ => 0))), (q_4, .inl (G.2.1 1, 40, .inl (fun _ => 0)))]) := hD
  refine lv_aload_n X.hx X.hb dX0_init_36 rfl (lv_at hl 0 rfl) ?_
  refine lv_aload_n X.hx X.hb dX0_init_37 rfl (lv_at hl 1 rfl) ?_
  refine va_putF (D := G.1) (ci := 0) (v := .ref b1) (C := RX0) (T := TX0) (N := 12) X.hx X.hb X.hts hu_0 tyX0 tyX0_ok nmX0 X.hown X.hK hP hD hS 0 rfl rfl 0 (by decide) (X.hts _ tw_386) (fun _ h9 => h9) rfl hin rfl (tyX0_ok 0 (by decide)) rfl rfl (Nat.le_of_ble_eq_true rfl) dX0_init_38 (fun H locs hP hD hS => ?_)
  replace hP : va_P G.1 vwCl ([(a, .inr (0, [.ref b1, .null, .ref q_1, .ref q_2, .ref q_3, .ref q_4, .int 0, .int 0, .int 0, .int 0, .int 0, .int 0])), (q_1, .inl (G.2.1 1, 40, .inl (fun _ => 0))), (q_2, .inl (G.2.1 1, 40, .inl (fun _ => 0))), (q_3, .inl (G.2.1 1, 40, .inl (fun _ => 0))), (q_4, .inl (G.2.1 1, 40, .inl (fun _ => 0)))]) H := hP
  replace hD : va_D A ([(a, .inr (0, [.ref b1, .null, .ref q_1, .ref q_2, .ref q_3, .ref q_4, .int 0, .int 0, .int 0, .int 0, .int 0, .int 0])), (q_1, .inl (G.2.1 1, 40, .inl (fun _ => 0))), (q_2, .inl (G.2.1 1, 40, .inl (fun _ => 0))), (q_3, .inl (G.2.1 1, 40, .inl (fun _ => 0))), (q_4, .inl (G.2.1 1, 40, .inl (fun _ => 0)))]) := hD
  refine lv_aload_n X.hx X.hb dX0_init_41 rfl (lv_at hl 0 rfl) ?_
  refine lv_aload_n X.hx X.hb dX0_init_42 rfl (lv_at hl 2 rfl) ?_
  refine va_putF (D := G.1) (ci := 0) (v := .ref b2) (C := RX0) (T := TX0) (N := 12) X.hx X.hb X.hts hu_0 tyX0 tyX0_ok nmX0 X.hown X.hK hP hD hS 0 rfl rfl 1 (by decide) (X.hts _ tw_387) (fun _ h9 => h9) rfl hin rfl (tyX0_ok 1 (by decide)) rfl rfl (Nat.le_of_ble_eq_true rfl) dX0_init_43 (fun H locs hP hD hS => ?_)
  replace hP : va_P G.1 vwCl ([(a, .inr (0, [.ref b1, .ref b2, .ref q_1, .ref q_2, .ref q_3, .ref q_4, .int 0, .int 0, .int 0, .int 0, .int 0, .int 0])), (q_1, .inl (G.2.1 1, 40, .inl (fun _ => 0))), (q_2, .inl (G.2.1 1, 40, .inl (fun _ => 0))), (q_3, .inl (G.2.1 1, 40, .inl (fun _ => 0))), (q_4, .inl (G.2.1 1, 40, .inl (fun _ => 0)))]) H := hP
  replace hD : va_D A ([(a, .inr (0, [.ref b1, .ref b2, .ref q_1, .ref q_2, .ref q_3, .ref q_4, .int 0, .int 0, .int 0, .int 0, .int 0, .int 0])), (q_1, .inl (G.2.1 1, 40, .inl (fun _ => 0))), (q_2, .inl (G.2.1 1, 40, .inl (fun _ => 0))), (q_3, .inl (G.2.1 1, 40, .inl (fun _ => 0))), (q_4, .inl (G.2.1 1, 40, .inl (fun _ => 0)))]) := hD
  replace hP : va_P G.1 vwCl (gB G (ul [a, 0, 0, q_1, q_2, q_3, q_4]) b1 b2 (fun _ _ => 0) (fun _ => 0)) H := hP.sub (ws' := (gB G (ul [a, 0, 0, q_1, q_2, q_3, q_4]) b1 b2 (fun _ _ => 0) (fun _ => 0))) [0, 1, 2, 3, 4] rfl
  replace hD : va_D A (gB G (ul [a, 0, 0, q_1, q_2, q_3, q_4]) b1 b2 (fun _ _ => 0) (fun _ => 0)) := hD.sub (ws' := (gB G (ul [a, 0, 0, q_1, q_2, q_3, q_4]) b1 b2 (fun _ _ => 0) (fun _ => 0))) [0, 1, 2, 3, 4] (by decide) rfl
  refine W.widen (k := 4) (n := 160) (Nat.le_of_ble_eq_true rfl) (Nat.le_of_ble_eq_true rfl) ?_
  exact r_nret (W' := (fun u => gB G (u 0) b1 b2 (fun _ _ => 0) (fun _ => 0))) X (ulf [(ul [a, 0, 0, q_1, q_2, q_3, q_4])]) rfl hP hD hS dX0_init_46

set_option maxHeartbeats 4000000 in
set_option maxRecDepth 100000 in
theorem c_X9_init (l : Launch) (G : GT) (N : Nat) (a b1 b2 : Nat) : CN l G yX9_init cX9_init 3 1 2 15 [.ref a, .ref b1, .ref b2] [(a, .inr (9, [.null, .null, .int 0, .int 0, .int 0, .null, .int 0, .null]))] a (fun u => gE G (u 0) b1 b2 (va_up (va_up (va_up (fun _ => 0) 2 (-1)) 3 (-1)) 6 (-1)) (fun _ _ => 0)) := by
  refine CN.of (by decide) rfl (Nat.le_of_ble_eq_true rfl) ?_
  intro p e s m args below meth c A X hin hA hP hD hS ls hl
  have hl : lv_has ls 3 [(0, .ref a), (1, .ref b1), (2, .ref b2)] := hl
  refine lv_aload_n X.hx X.hb dX9_init_0 rfl (lv_at hl 0 rfl) ?_
  refine r_objInit X tw_335 hl.1 (Nat.le_of_ble_eq_true rfl) (Nat.le_of_ble_eq_true rfl) dX9_init_1 ?_
  refine lv_aload_n X.hx X.hb dX9_init_4 rfl (lv_at hl 0 rfl) ?_
  refine lv_iconst (v := (-1)) X.hx X.hb dX9_init_5 (by decide) ?_
  refine pf_X9_9 X hP hD hS 0 rfl rfl rfl (Nat.le_of_ble_eq_true rfl) rfl dX9_init_6 (fun H locs hP hD hS => ?_)
  replace hP : va_P G.1 vwCl ([(a, .inr (9, [.null, .null, .int (-1), .int 0, .int 0, .null, .int 0, .null]))]) H := hP
  replace hD : va_D A ([(a, .inr (9, [.null, .null, .int (-1), .int 0, .int 0, .null, .int 0, .null]))]) := hD
  refine lv_aload_n X.hx X.hb dX9_init_9 rfl (lv_at hl 0 rfl) ?_
  refine lv_iconst (v := (-1)) X.hx X.hb dX9_init_10 (by decide) ?_
  refine pf_X9_15 X hP hD hS 0 rfl rfl rfl (Nat.le_of_ble_eq_true rfl) rfl dX9_init_11 (fun H locs hP hD hS => ?_)
  replace hP : va_P G.1 vwCl ([(a, .inr (9, [.null, .null, .int (-1), .int (-1), .int 0, .null, .int 0, .null]))]) H := hP
  replace hD : va_D A ([(a, .inr (9, [.null, .null, .int (-1), .int (-1), .int 0, .null, .int 0, .null]))]) := hD
  refine lv_aload_n X.hx X.hb dX9_init_14 rfl (lv_at hl 0 rfl) ?_
  refine lv_bipush (v := 7) X.hx X.hb dX9_init_15 (by decide) ?_
  refine r_newi X hP hD hS hA 7 (by decide) (by decide) (Nat.le_of_ble_eq_true rfl) (Nat.le_of_ble_eq_true rfl) (Nat.le_of_ble_eq_true rfl) dX9_init_17 (fun q_1 H hP hD hS => ?_)
  refine W.widen (k := 1) (n := 7) (Nat.le_of_ble_eq_true rfl) (Nat.le_of_ble_eq_true rfl) ?_
  replace hP : va_P G.1 vwCl ([(a, .inr (9, [.null, .null, .int (-1), .int (-1), .int 0, .null, .int 0, .null])), (q_1, .inl (G.2.1 1, 7, .inl (fun _ => 0)))]) H := hP
  replace hD : va_D A ([(a, .inr (9, [.null, .null, .int (-1), .int (-1), .int 0, .null, .int 0, .null])), (q_1, .inl (G.2.1 1, 7, .inl (fun _ => 0)))]) := hD
  refine va_putF (D := G.1) (ci := 9) (v := .ref q_1) (C := RX9) (T := TX9) (N := 8) X.hx X.hb X.hts hu_9 tyX9 tyX9_ok nmX9 X.hown X.hK hP hD hS 0 rfl rfl 5 (by decide) (X.hts _ tw_344) (fun _ h9 => h9) rfl hin rfl (tyX9_ok 5 (by decide)) rfl rfl (Nat.le_of_ble_eq_true rfl) dX9_init_19 (fun H locs hP hD hS => ?_)
  replace hP : va_P G.1 vwCl ([(a, .inr (9, [.null, .null, .int (-1), .int (-1), .int 0, .ref q_1, .int 0, .null])), (q_1, .inl (G.2.1 1, 7, .inl (fun _ => 0)))]) H := hP
  replace hD : va_D A ([(a, .inr (9, [.null, .null, .int (-1), .int (-1), .int 0, .ref q_1, .int 0, .null])), (q_1, .inl (G.2.1 1, 7, .inl (fun _ => 0)))]) := hD
  refine lv_aload_n X.hx X.hb dX9_init_22 rfl (lv_at hl 0 rfl) ?_
  refine lv_iconst (v := (-1)) X.hx X.hb dX9_init_23 (by decide) ?_
  refine pf_X9_22 X hP hD hS 0 rfl rfl rfl (Nat.le_of_ble_eq_true rfl) rfl dX9_init_24 (fun H locs hP hD hS => ?_)
  replace hP : va_P G.1 vwCl ([(a, .inr (9, [.null, .null, .int (-1), .int (-1), .int 0, .ref q_1, .int (-1), .null])), (q_1, .inl (G.2.1 1, 7, .inl (fun _ => 0)))]) H := hP
  replace hD : va_D A ([(a, .inr (9, [.null, .null, .int (-1), .int (-1), .int 0, .ref q_1, .int (-1), .null])), (q_1, .inl (G.2.1 1, 7, .inl (fun _ => 0)))]) := hD
  refine lv_aload_n X.hx X.hb dX9_init_27 rfl (lv_at hl 0 rfl) ?_
  refine lv_bipush (v := 8) X.hx X.hb dX9_init_28 (by decide) ?_
  refine r_newi X hP hD hS hA 8 (by decide) (by decide) (Nat.le_of_ble_eq_true rfl) (Nat.le_of_ble_eq_true rfl) (Nat.le_of_ble_eq_true rfl) dX9_init_30 (fun q_2 H hP hD hS => ?_)
  refine W.widen (k := 2) (n := 15) (Nat.le_of_ble_eq_true rfl) (Nat.le_of_ble_eq_true rfl) ?_
  replace hP : va_P G.1 vwCl ([(a, .inr (9, [.null, .null, .int (-1), .int (-1), .int 0, .ref q_1, .int (-1), .null])), (q_1, .inl (G.2.1 1, 7, .inl (fun _ => 0))), (q_2, .inl (G.2.1 1, 8, .inl (fun _ => 0)))]) H := hP
  replace hD : va_D A ([(a, .inr (9, [.null, .null, .int (-1), .int (-1), .int 0, .ref q_1, .int (-1), .null])), (q_1, .inl (G.2.1 1, 7, .inl (fun _ => 0))), (q_2, .inl (G.2.1 1, 8, .inl (fun _ => 0)))]) := hD
  refine va_putF (D := G.1) (ci := 9) (v := .ref q_2) (C := RX9) (T := TX9) (N := 8) X.hx X.hb X.hts hu_9 tyX9 tyX9_ok nmX9 X.hown X.hK hP hD hS 0 rfl rfl 7 (by decide) (X.hts _ tw_348) (fun _ h9 => h9) rfl hin rfl (tyX9_ok 7 (by decide)) rfl rfl (Nat.le_of_ble_eq_true rfl) dX9_init_32 (fun H locs hP hD hS => ?_)
  replace hP : va_P G.1 vwCl ([(a, .inr (9, [.null, .null, .int (-1), .int (-1), .int 0, .ref q_1, .int (-1), .ref q_2])), (q_1, .inl (G.2.1 1, 7, .inl (fun _ => 0))), (q_2, .inl (G.2.1 1, 8, .inl (fun _ => 0)))]) H := hP
  replace hD : va_D A ([(a, .inr (9, [.null, .null, .int (-1), .int (-1), .int 0, .ref q_1, .int (-1), .ref q_2])), (q_1, .inl (G.2.1 1, 7, .inl (fun _ => 0))), (q_2, .inl (G.2.1 1, 8, .inl (fun _ => 0)))]) := hD
  refine lv_aload_n X.hx X.hb dX9_init_35 rfl (lv_at hl 0 rfl) ?_
  refine lv_aload_n X.hx X.hb dX9_init_36 rfl (lv_at hl 1 rfl) ?_
  refine va_putF (D := G.1) (ci := 9) (v := .ref b1) (C := RX9) (T := TX9) (N := 8) X.hx X.hb X.hts hu_9 tyX9 tyX9_ok nmX9 X.hown X.hK hP hD hS 0 rfl rfl 0 (by decide) (X.hts _ tw_336) (fun _ h9 => h9) rfl hin rfl (tyX9_ok 0 (by decide)) rfl rfl (Nat.le_of_ble_eq_true rfl) dX9_init_37 (fun H locs hP hD hS => ?_)
  replace hP : va_P G.1 vwCl ([(a, .inr (9, [.ref b1, .null, .int (-1), .int (-1), .int 0, .ref q_1, .int (-1), .ref q_2])), (q_1, .inl (G.2.1 1, 7, .inl (fun _ => 0))), (q_2, .inl (G.2.1 1, 8, .inl (fun _ => 0)))]) H := hP
  replace hD : va_D A ([(a, .inr (9, [.ref b1, .null, .int (-1), .int (-1), .int 0, .ref q_1, .int (-1), .ref q_2])), (q_1, .inl (G.2.1 1, 7, .inl (fun _ => 0))), (q_2, .inl (G.2.1 1, 8, .inl (fun _ => 0)))]) := hD
  refine lv_aload_n X.hx X.hb dX9_init_40 rfl (lv_at hl 0 rfl) ?_
  refine lv_aload_n X.hx X.hb dX9_init_41 rfl (lv_at hl 2 rfl) ?_
  refine va_putF (D := G.1) (ci := 9) (v := .ref b2) (C := RX9) (T := TX9) (N := 8) X.hx X.hb X.hts hu_9 tyX9 tyX9_ok nmX9 X.hown X.hK hP hD hS 0 rfl rfl 1 (by decide) (X.hts _ tw_337) (fun _ h9 => h9) rfl hin rfl (tyX9_ok 1 (by decide)) rfl rfl (Nat.le_of_ble_eq_true rfl) dX9_init_42 (fun H locs hP hD hS => ?_)
  replace hP : va_P G.1 vwCl ([(a, .inr (9, [.ref b1, .ref b2, .int (-1), .int (-1), .int 0, .ref q_1, .int (-1), .ref q_2])), (q_1, .inl (G.2.1 1, 7, .inl (fun _ => 0))), (q_2, .inl (G.2.1 1, 8, .inl (fun _ => 0)))]) H := hP
  replace hD : va_D A ([(a, .inr (9, [.ref b1, .ref b2, .int (-1), .int (-1), .int 0, .ref q_1, .int (-1), .ref q_2])), (q_1, .inl (G.2.1 1, 7, .inl (fun _ => 0))), (q_2, .inl (G.2.1 1, 8, .inl (fun _ => 0)))]) := hD
  replace hP : va_P G.1 vwCl (gE G (ul [a, 0, 0, 0, 0, 0, q_1, 0, q_2]) b1 b2 (va_up (va_up (va_up (fun _ => 0) 2 (-1)) 3 (-1)) 6 (-1)) (fun _ _ => 0)) H := hP.sub (ws' := (gE G (ul [a, 0, 0, 0, 0, 0, q_1, 0, q_2]) b1 b2 (va_up (va_up (va_up (fun _ => 0) 2 (-1)) 3 (-1)) 6 (-1)) (fun _ _ => 0))) [0, 1, 2] rfl
  replace hD : va_D A (gE G (ul [a, 0, 0, 0, 0, 0, q_1, 0, q_2]) b1 b2 (va_up (va_up (va_up (fun _ => 0) 2 (-1)) 3 (-1)) 6 (-1)) (fun _ _ => 0)) := hD.sub (ws' := (gE G (ul [a, 0, 0, 0, 0, 0, q_1, 0, q_2]) b1 b2 (va_up (va_up (va_up (fun _ => 0) 2 (-1)) 3 (-1)) 6 (-1)) (fun _ _ => 0))) [0, 1, 2] (by decide) rfl
  refine W.widen (k := 2) (n := 15) (Nat.le_of_ble_eq_true rfl) (Nat.le_of_ble_eq_true rfl) ?_
  exact r_nret (W' := (fun u => gE G (u 0) b1 b2 (va_up (va_up (va_up (fun _ => 0) 2 (-1)) 3 (-1)) 6 (-1)) (fun _ _ => 0))) X (ulf [(ul [a, 0, 0, 0, 0, 0, q_1, 0, q_2])]) rfl hP hD hS dX9_init_45

set_option maxHeartbeats 4000000 in
set_option maxRecDepth 100000 in
theorem c_X7_init (l : Launch) (G : GT) (N : Nat) (a b1 b2 : Nat) : CN l G yX7_init cX7_init 3 2 5 146 [.ref a, .ref b1, .ref b2] [(a, .inr (7, [.null, .null, .null]))] a (fun u => gQ G (u 0) b1 b2 (u 1 0) ++ gS G (u 1) (fun _ => 0) (fun _ _ => 0)) := by
  refine CN.of (by decide) rfl (Nat.le_of_ble_eq_true rfl) ?_
  intro p e s m args below meth c A X hin hA hP hD hS ls hl
  have hl : lv_has ls 3 [(0, .ref a), (1, .ref b1), (2, .ref b2)] := hl
  refine lv_aload_n X.hx X.hb dX7_init_0 rfl (lv_at hl 0 rfl) ?_
  refine r_objInit X tw_460 hl.1 (Nat.le_of_ble_eq_true rfl) (Nat.le_of_ble_eq_true rfl) dX7_init_1 ?_
  refine lv_aload_n X.hx X.hb dX7_init_4 rfl (lv_at hl 0 rfl) ?_
  refine va_new (C := RX6) (T := TX6) (N := 6) (ci := 6) (fs := [.int 0, .int 0, .null, .null, .null, .null]) X.hx X.hb X.hts hu_6 tyX6 tyX6_ok X.hown (X.hts _ tw_461) (X.hts _ tw_429) (X.hts _ tw_14) X.hK hP hD hS hA rfl (ct_fs (by decide +kernel)) (Nat.le_of_ble_eq_true rfl) (Nat.le_of_ble_eq_true rfl) dX7_init_5 (fun q_1 H hP hD hS => ?_)
  refine W.widen (k := 1) (n := 6) (Nat.le_of_ble_eq_true rfl) (Nat.le_of_ble_eq_true rfl) ?_
  replace hP : va_P G.1 vwCl ([(a, .inr (7, [.null, .null, .null])), (q_1, .inr (6, [.int 0, .int 0, .null, .null, .null, .null]))]) H := hP
  replace hD : va_D A ([(a, .inr (7, [.null, .null, .null])), (q_1, .inr (6, [.int 0, .int 0, .null, .null, .null, .null]))]) := hD
  refine lv_dup X.hx X.hb dX7_init_8 rfl ?_
  refine r_cipN [[(a, .inr (7, [.null, .null, .null]))], [(q_1, .inr (6, [.int 0, .int 0, .null, .null, .null, .null]))]] [[(q_1, .inr (6, [.int 0, .int 0, .null, .null, .null, .null]))]] 2 [0] 1 ([(a, .inr (7, [.null, .null, .null]))]) (As := []) (rest := [.ref q_1, .ref a]) X sc_X7_11 rfl tw_431 (c_X6_init l G N q_1) hP hD hS hA rfl (by decide) (by simp only [List.flatten_cons, List.flatten_nil, List.append_assoc, List.append_nil, List.cons_append, List.nil_append]) rfl rfl (by simp only [pk, List.map_cons, List.map_nil, List.getD_cons_zero, List.getD_cons_succ, List.flatten_cons, List.flatten_nil, List.append_assoc, List.append_nil, List.cons_append, List.nil_append]) rfl hl.1 (lv_room (Nat.le_of_ble_eq_true rfl)) ⟨Nat.le_of_ble_eq_true rfl, Nat.le_of_ble_eq_true rfl⟩ ⟨Nat.le_of_ble_eq_true rfl, Nat.le_of_ble_eq_true rfl⟩ dX7_init_9 (fun u_2 H locs hadr_3 hP hD hS => ?_)
  refine W.widen (k := 5) (n := 146) (Nat.le_of_ble_eq_true rfl) (Nat.le_of_ble_eq_true rfl) ?_
  replace hP : va_P G.1 vwCl ([(a, .inr (7, [.null, .null, .null]))] ++ gS G (u_2 0) (fun _ => 0) (fun _ _ => 0)) H := hP
  replace hD : va_D A ([(a, .inr (7, [.null, .null, .null]))] ++ gS G (u_2 0) (fun _ => 0) (fun _ _ => 0)) := hD
  rw [← hadr_3]
  replace hP : va_P G.1 vwCl ([(a, .inr (7, [.null, .null, .null]))] ++ gS G (u_2 0) (fun _ => 0) (fun _ _ => 0)) H := hP
  replace hD : va_D A ([(a, .inr (7, [.null, .null, .null]))] ++ gS G (u_2 0) (fun _ => 0) (fun _ _ => 0)) := hD
  refine va_putF (D := G.1) (ci := 7) (v := .ref (u_2 0 0)) (C := RX7) (T := TX7) (N := 3) X.hx X.hb X.hts hu_7 tyX7 tyX7_ok nmX7 X.hown X.hK hP hD hS 0 rfl rfl 2 (by decide) (X.hts _ tw_465) (fun _ h9 => h9) rfl hin rfl (tyX7_ok 2 (by decide)) rfl rfl (Nat.le_of_ble_eq_true rfl) dX7_init_12 (fun H locs hP hD hS => ?_)
  replace hP : va_P G.1 vwCl ([(a, .inr (7, [.null, .null, .ref (u_2 0 0)]))] ++ gS G (u_2 0) (fun _ => 0) (fun _ _ => 0)) H := hP
  replace hD : va_D A ([(a, .inr (7, [.null, .null, .ref (u_2 0 0)]))] ++ gS G (u_2 0) (fun _ => 0) (fun _ _ => 0)) := hD
  refine lv_aload_n X.hx X.hb dX7_init_15 rfl (lv_at hl 0 rfl) ?_
  refine lv_aload_n X.hx X.hb dX7_init_16 rfl (lv_at hl 1 rfl) ?_
  refine va_putF (D := G.1) (ci := 7) (v := .ref b1) (C := RX7) (T := TX7) (N := 3) X.hx X.hb X.hts hu_7 tyX7 tyX7_ok nmX7 X.hown X.hK hP hD hS 0 rfl rfl 0 (by decide) (X.hts _ tw_463) (fun _ h9 => h9) rfl hin rfl (tyX7_ok 0 (by decide)) rfl rfl (Nat.le_of_ble_eq_true rfl) dX7_init_17 (fun H locs hP hD hS => ?_)
  replace hP : va_P G.1 vwCl ([(a, .inr (7, [.ref b1, .null, .ref (u_2 0 0)]))] ++ gS G (u_2 0) (fun _ => 0) (fun _ _ => 0)) H := hP
  replace hD : va_D A ([(a, .inr (7, [.ref b1, .null, .ref (u_2 0 0)]))] ++ gS G (u_2 0) (fun _ => 0) (fun _ _ => 0)) := hD
  refine lv_aload_n X.hx X.hb dX7_init_20 rfl (lv_at hl 0 rfl) ?_
  refine lv_aload_n X.hx X.hb dX7_init_21 rfl (lv_at hl 2 rfl) ?_
  refine va_putF (D := G.1) (ci := 7) (v := .ref b2) (C := RX7) (T := TX7) (N := 3) X.hx X.hb X.hts hu_7 tyX7 tyX7_ok nmX7 X.hown X.hK hP hD hS 0 rfl rfl 1 (by decide) (X.hts _ tw_464) (fun _ h9 => h9) rfl hin rfl (tyX7_ok 1 (by decide)) rfl rfl (Nat.le_of_ble_eq_true rfl) dX7_init_22 (fun H locs hP hD hS => ?_)
  replace hP : va_P G.1 vwCl ([(a, .inr (7, [.ref b1, .ref b2, .ref (u_2 0 0)]))] ++ gS G (u_2 0) (fun _ => 0) (fun _ _ => 0)) H := hP
  replace hD : va_D A ([(a, .inr (7, [.ref b1, .ref b2, .ref (u_2 0 0)]))] ++ gS G (u_2 0) (fun _ => 0) (fun _ _ => 0)) := hD
  replace hP : va_P G.1 vwCl (gQ G (ul [a]) b1 b2 (u_2 0 0) ++ gS G (u_2 0) (fun _ => 0) (fun _ _ => 0)) H := hP.sub (ws' := (gQ G (ul [a]) b1 b2 (u_2 0 0) ++ gS G (u_2 0) (fun _ => 0) (fun _ _ => 0))) [0, 1, 2, 3, 4, 5] rfl
  replace hD : va_D A (gQ G (ul [a]) b1 b2 (u_2 0 0) ++ gS G (u_2 0) (fun _ => 0) (fun _ _ => 0)) := hD.sub (ws' := (gQ G (ul [a]) b1 b2 (u_2 0 0) ++ gS G (u_2 0) (fun _ => 0) (fun _ _ => 0))) [0, 1, 2, 3, 4, 5] (by decide) rfl
  refine W.widen (k := 5) (n := 146) (Nat.le_of_ble_eq_true rfl) (Nat.le_of_ble_eq_true rfl) ?_
  exact r_nret (W' := (fun u => gQ G (u 0) b1 b2 (u 1 0) ++ gS G (u 1) (fun _ => 0) (fun _ _ => 0))) X (ulf [(ul [a]), (u_2 0)]) rfl hP hD hS dX7_init_25

set_option maxHeartbeats 4000000 in
set_option maxRecDepth 100000 in
theorem c_X2_init (l : Launch) (G : GT) (N : Nat) (a b1 : Nat) {iC_8_2 : Nat → Int32} {tC_9_3 : Nat → Nat → Int64} {sC_10_4 : Nat → Nat → Int32} (hf_5 : f_X1_clear N (fun _ => 0) (fun _ _ => 0) (fun _ _ => 0) = some (iC_8_2, tC_9_3, sC_10_4)) : CN l G yX2_init cX2_init 2 4 8 150 [.ref a, .ref b1] [(a, .inr (2, [.null, .null, .int 0, .int 0, .int 0]))] a (fun u => gR G (u 0) b1 (u 1 0) (fun _ => 0) ++ gC G (u 1) iC_8_2 tC_9_3 sC_10_4) := by
  refine CN.of (by decide) rfl (Nat.le_of_ble_eq_true rfl) ?_
  intro p e s m args below meth c A X hin hA hP hD hS ls hl
  have hl : lv_has ls 2 [(0, .ref a), (1, .ref b1)] := hl
  refine lv_aload_n X.hx X.hb dX2_init_0 rfl (lv_at hl 0 rfl) ?_
  refine r_objInit X tw_242 hl.1 (Nat.le_of_ble_eq_true rfl) (Nat.le_of_ble_eq_true rfl) dX2_init_1 ?_
  refine lv_aload_n X.hx X.hb dX2_init_4 rfl (lv_at hl 0 rfl) ?_
  refine va_new (C := RX1) (T := TX1) (N := 12) (ci := 1) (fs := [.int 0, .int 0, .null, .null, .null, .null, .null, .null, .null, .int 0, .int 0, .int 0]) X.hx X.hb X.hts hu_1 tyX1 tyX1_ok X.hown (X.hts _ tw_243) (X.hts _ tw_147) (X.hts _ tw_7) X.hK hP hD hS hA rfl (ct_fs (by decide +kernel)) (Nat.le_of_ble_eq_true rfl) (Nat.le_of_ble_eq_true rfl) dX2_init_5 (fun q_1 H hP hD hS => ?_)
  refine W.widen (k := 1) (n := 12) (Nat.le_of_ble_eq_true rfl) (Nat.le_of_ble_eq_true rfl) ?_
  replace hP : va_P G.1 vwCl ([(a, .inr (2, [.null, .null, .int 0, .int 0, .int 0])), (q_1, .inr (1, [.int 0, .int 0, .null, .null, .null, .null, .null, .null, .null, .int 0, .int 0, .int 0]))]) H := hP
  replace hD : va_D A ([(a, .inr (2, [.null, .null, .int 0, .int 0, .int 0])), (q_1, .inr (1, [.int 0, .int 0, .null, .null, .null, .null, .null, .null, .null, .int 0, .int 0, .int 0]))]) := hD
  refine lv_dup X.hx X.hb dX2_init_8 rfl ?_
  refine r_cip [[(a, .inr (2, [.null, .null, .int 0, .int 0, .int 0]))], [(q_1, .inr (1, [.int 0, .int 0, .null, .null, .null, .null, .null, .null, .null, .int 0, .int 0, .int 0]))]] [[(q_1, .inr (1, [.int 0, .int 0, .null, .null, .null, .null, .null, .null, .null, .int 0, .int 0, .int 0]))]] 2 [0] 1 ([(a, .inr (2, [.null, .null, .int 0, .int 0, .int 0]))]) (As := []) (rest := [.ref q_1, .ref a]) X sc_X2_11 rfl tw_149 (c_X1_init l G N q_1 hf_5) hP hD hS hA rfl (by decide) (by simp only [List.flatten_cons, List.flatten_nil, List.append_assoc, List.append_nil, List.cons_append, List.nil_append]) rfl rfl (by simp only [pk, List.map_cons, List.map_nil, List.getD_cons_zero, List.getD_cons_succ, List.flatten_cons, List.flatten_nil, List.append_assoc, List.append_nil, List.cons_append, List.nil_append]) rfl hl.1 (lv_room (Nat.le_of_ble_eq_true rfl)) ⟨Nat.le_of_ble_eq_true rfl, Nat.le_of_ble_eq_true rfl⟩ ⟨Nat.le_of_ble_eq_true rfl, Nat.le_of_ble_eq_true rfl⟩ dX2_init_9 (fun u_6 H locs hadr_7 hP hD hS => ?_)
  refine W.widen (k := 8) (n := 150) (Nat.le_of_ble_eq_true rfl) (Nat.le_of_ble_eq_true rfl) ?_
  replace hP : va_P G.1 vwCl ([(a, .inr (2, [.null, .null, .int 0, .int 0, .int 0]))] ++ gC G (u_6 0) iC_8_2 tC_9_3 sC_10_4) H := hP
  replace hD : va_D A ([(a, .inr (2, [.null, .null, .int 0, .int 0, .int 0]))] ++ gC G (u_6 0) iC_8_2 tC_9_3 sC_10_4) := hD
  rw [← hadr_7]
  replace hP : va_P G.1 vwCl ([(a, .inr (2, [.null, .null, .int 0, .int 0, .int 0]))] ++ gC G (u_6 0) iC_8_2 tC_9_3 sC_10_4) H := hP
  replace hD : va_D A ([(a, .inr (2, [.null, .null, .int 0, .int 0, .int 0]))] ++ gC G (u_6 0) iC_8_2 tC_9_3 sC_10_4) := hD
  refine va_putF (D := G.1) (ci := 2) (v := .ref (u_6 0 0)) (C := RX2) (T := TX2) (N := 5) X.hx X.hb X.hts hu_2 tyX2 tyX2_ok nmX2 X.hown X.hK hP hD hS 0 rfl rfl 1 (by decide) (X.hts _ tw_246) (fun _ h9 => h9) rfl hin rfl (tyX2_ok 1 (by decide)) rfl rfl (Nat.le_of_ble_eq_true rfl) dX2_init_12 (fun H locs hP hD hS => ?_)
  replace hP : va_P G.1 vwCl ([(a, .inr (2, [.null, .ref (u_6 0 0), .int 0, .int 0, .int 0]))] ++ gC G (u_6 0) iC_8_2 tC_9_3 sC_10_4) H := hP
  replace hD : va_D A ([(a, .inr (2, [.null, .ref (u_6 0 0), .int 0, .int 0, .int 0]))] ++ gC G (u_6 0) iC_8_2 tC_9_3 sC_10_4) := hD
  refine lv_aload_n X.hx X.hb dX2_init_15 rfl (lv_at hl 0 rfl) ?_
  refine lv_aload_n X.hx X.hb dX2_init_16 rfl (lv_at hl 1 rfl) ?_
  refine va_putF (D := G.1) (ci := 2) (v := .ref b1) (C := RX2) (T := TX2) (N := 5) X.hx X.hb X.hts hu_2 tyX2 tyX2_ok nmX2 X.hown X.hK hP hD hS 0 rfl rfl 0 (by decide) (X.hts _ tw_245) (fun _ h9 => h9) rfl hin rfl (tyX2_ok 0 (by decide)) rfl rfl (Nat.le_of_ble_eq_true rfl) dX2_init_17 (fun H locs hP hD hS => ?_)
  replace hP : va_P G.1 vwCl ([(a, .inr (2, [.ref b1, .ref (u_6 0 0), .int 0, .int 0, .int 0]))] ++ gC G (u_6 0) iC_8_2 tC_9_3 sC_10_4) H := hP
  replace hD : va_D A ([(a, .inr (2, [.ref b1, .ref (u_6 0 0), .int 0, .int 0, .int 0]))] ++ gC G (u_6 0) iC_8_2 tC_9_3 sC_10_4) := hD
  replace hP : va_P G.1 vwCl (gR G (ul [a]) b1 (u_6 0 0) (fun _ => 0) ++ gC G (u_6 0) iC_8_2 tC_9_3 sC_10_4) H := hP.sub (ws' := (gR G (ul [a]) b1 (u_6 0 0) (fun _ => 0) ++ gC G (u_6 0) iC_8_2 tC_9_3 sC_10_4)) [0, 1, 2, 3, 4, 5, 6, 7, 8] rfl
  replace hD : va_D A (gR G (ul [a]) b1 (u_6 0 0) (fun _ => 0) ++ gC G (u_6 0) iC_8_2 tC_9_3 sC_10_4) := hD.sub (ws' := (gR G (ul [a]) b1 (u_6 0 0) (fun _ => 0) ++ gC G (u_6 0) iC_8_2 tC_9_3 sC_10_4)) [0, 1, 2, 3, 4, 5, 6, 7, 8] (by decide) rfl
  refine W.widen (k := 8) (n := 150) (Nat.le_of_ble_eq_true rfl) (Nat.le_of_ble_eq_true rfl) ?_
  exact r_nret (W' := (fun u => gR G (u 0) b1 (u 1 0) (fun _ => 0) ++ gC G (u 1) iC_8_2 tC_9_3 sC_10_4)) X (ulf [(ul [a]), (u_6 0)]) rfl hP hD hS dX2_init_20

set_option maxHeartbeats 4000000 in
set_option maxRecDepth 100000 in
theorem c_X3_init (l : Launch) (G : GT) (N : Nat) (a : Nat) {iC_8_2 : Nat → Int32} {tC_9_3 : Nat → Nat → Int64} {sC_10_4 : Nat → Nat → Int32} (hf_5 : f_X1_clear N (fun _ => 0) (fun _ _ => 0) (fun _ _ => 0) = some (iC_8_2, tC_9_3, sC_10_4)) : CN l G yX3_init cX3_init 1 4 20 449 [.ref a] [(a, .inr (3, [.int 0, .null, .null, .null]))] a (fun u => gI G (u 0) (u 1 0) (u 2 0) (u 3 0) (fun _ => 0) ++ gC G (u 1) iC_8_2 tC_9_3 sC_10_4 ++ gM G (u 2) (u 1 0) (fun _ => 0) (fun _ _ => 0) ++ gS G (u 3) (fun _ => 0) (fun _ _ => 0)) := by
  refine CN.of (by decide) rfl (Nat.le_of_ble_eq_true rfl) ?_
  intro p e s m args below meth c A X hin hA hP hD hS ls hl
  have hl : lv_has ls 1 [(0, .ref a)] := hl
  refine lv_aload_n X.hx X.hb dX3_init_0 rfl (lv_at hl 0 rfl) ?_
  refine r_objInit X tw_479 hl.1 (Nat.le_of_ble_eq_true rfl) (Nat.le_of_ble_eq_true rfl) dX3_init_1 ?_
  refine lv_aload_n X.hx X.hb dX3_init_4 rfl (lv_at hl 0 rfl) ?_
  refine va_new (C := RX1) (T := TX1) (N := 12) (ci := 1) (fs := [.int 0, .int 0, .null, .null, .null, .null, .null, .null, .null, .int 0, .int 0, .int 0]) X.hx X.hb X.hts hu_1 tyX1 tyX1_ok X.hown (X.hts _ tw_480) (X.hts _ tw_147) (X.hts _ tw_7) X.hK hP hD hS hA rfl (ct_fs (by decide +kernel)) (Nat.le_of_ble_eq_true rfl) (Nat.le_of_ble_eq_true rfl) dX3_init_5 (fun q_1 H hP hD hS => ?_)
  refine W.widen (k := 1) (n := 12) (Nat.le_of_ble_eq_true rfl) (Nat.le_of_ble_eq_true rfl) ?_
  replace hP : va_P G.1 vwCl ([(a, .inr (3, [.int 0, .null, .null, .null])), (q_1, .inr (1, [.int 0, .int 0, .null, .null, .null, .null, .null, .null, .null, .int 0, .int 0, .int 0]))]) H := hP
  replace hD : va_D A ([(a, .inr (3, [.int 0, .null, .null, .null])), (q_1, .inr (1, [.int 0, .int 0, .null, .null, .null, .null, .null, .null, .null, .int 0, .int 0, .int 0]))]) := hD
  refine lv_dup X.hx X.hb dX3_init_8 rfl ?_
  refine r_cip [[(a, .inr (3, [.int 0, .null, .null, .null]))], [(q_1, .inr (1, [.int 0, .int 0, .null, .null, .null, .null, .null, .null, .null, .int 0, .int 0, .int 0]))]] [[(q_1, .inr (1, [.int 0, .int 0, .null, .null, .null, .null, .null, .null, .null, .int 0, .int 0, .int 0]))]] 2 [0] 1 ([(a, .inr (3, [.int 0, .null, .null, .null]))]) (As := []) (rest := [.ref q_1, .ref a]) X sc_X3_9 rfl tw_149 (c_X1_init l G N q_1 hf_5) hP hD hS hA rfl (by decide) (by simp only [List.flatten_cons, List.flatten_nil, List.append_assoc, List.append_nil, List.cons_append, List.nil_append]) rfl rfl (by simp only [pk, List.map_cons, List.map_nil, List.getD_cons_zero, List.getD_cons_succ, List.flatten_cons, List.flatten_nil, List.append_assoc, List.append_nil, List.cons_append, List.nil_append]) rfl hl.1 (lv_room (Nat.le_of_ble_eq_true rfl)) ⟨Nat.le_of_ble_eq_true rfl, Nat.le_of_ble_eq_true rfl⟩ ⟨Nat.le_of_ble_eq_true rfl, Nat.le_of_ble_eq_true rfl⟩ dX3_init_9 (fun u_6 H locs hadr_7 hP hD hS => ?_)
  refine W.widen (k := 8) (n := 150) (Nat.le_of_ble_eq_true rfl) (Nat.le_of_ble_eq_true rfl) ?_
  replace hP : va_P G.1 vwCl ([(a, .inr (3, [.int 0, .null, .null, .null]))] ++ gC G (u_6 0) iC_8_2 tC_9_3 sC_10_4) H := hP
  replace hD : va_D A ([(a, .inr (3, [.int 0, .null, .null, .null]))] ++ gC G (u_6 0) iC_8_2 tC_9_3 sC_10_4) := hD
  rw [← hadr_7]
  replace hP : va_P G.1 vwCl ([(a, .inr (3, [.int 0, .null, .null, .null]))] ++ gC G (u_6 0) iC_8_2 tC_9_3 sC_10_4) H := hP
  replace hD : va_D A ([(a, .inr (3, [.int 0, .null, .null, .null]))] ++ gC G (u_6 0) iC_8_2 tC_9_3 sC_10_4) := hD
  refine va_putF (D := G.1) (ci := 3) (v := .ref (u_6 0 0)) (C := RX3) (T := TX3) (N := 4) X.hx X.hb X.hts hu_3 tyX3 tyX3_ok nmX3 X.hown X.hK hP hD hS 0 rfl rfl 1 (by decide) (X.hts _ tw_487) (fun _ h9 => h9) rfl hin rfl (tyX3_ok 1 (by decide)) rfl rfl (Nat.le_of_ble_eq_true rfl) dX3_init_12 (fun H locs hP hD hS => ?_)
  replace hP : va_P G.1 vwCl ([(a, .inr (3, [.int 0, .ref (u_6 0 0), .null, .null]))] ++ gC G (u_6 0) iC_8_2 tC_9_3 sC_10_4) H := hP
  replace hD : va_D A ([(a, .inr (3, [.int 0, .ref (u_6 0 0), .null, .null]))] ++ gC G (u_6 0) iC_8_2 tC_9_3 sC_10_4) := hD
  refine lv_aload_n X.hx X.hb dX3_init_15 rfl (lv_at hl 0 rfl) ?_
  refine va_new (C := RX4) (T := TX4) (N := 13) (ci := 4) (fs := [.null, .int 0, .int 0, .int 0, .int 0, .int 0, .null, .null, .null, .null, .null, .null, .int 0]) X.hx X.hb X.hts hu_4 tyX4 tyX4_ok X.hown (X.hts _ tw_482) (X.hts _ tw_263) (X.hts _ tw_10) X.hK hP hD hS hA rfl (ct_fs (by decide +kernel)) (Nat.le_of_ble_eq_true rfl) (Nat.le_of_ble_eq_true rfl) dX3_init_16 (fun q_8 H hP hD hS => ?_)
  refine W.widen (k := 9) (n := 163) (Nat.le_of_ble_eq_true rfl) (Nat.le_of_ble_eq_true rfl) ?_
  replace hP : va_P G.1 vwCl ([(a, .inr (3, [.int 0, .ref (u_6 0 0), .null, .null]))] ++ gC G (u_6 0) iC_8_2 tC_9_3 sC_10_4 ++ [(q_8, .inr (4, [.null, .int 0, .int 0, .int 0, .int 0, .int 0, .null, .null, .null, .null, .null, .null, .int 0]))]) H := hP
  replace hD : va_D A ([(a, .inr (3, [.int 0, .ref (u_6 0 0), .null, .null]))] ++ gC G (u_6 0) iC_8_2 tC_9_3 sC_10_4 ++ [(q_8, .inr (4, [.null, .int 0, .int 0, .int 0, .int 0, .int 0, .null, .null, .null, .null, .null, .null, .int 0]))]) := hD
  refine lv_dup X.hx X.hb dX3_init_19 rfl ?_
  refine lv_aload_n X.hx X.hb dX3_init_20 rfl (lv_at hl 0 rfl) ?_
  refine gf_X3_10 X hP 0 rfl (v := .ref (u_6 0 0)) rfl dX3_init_21 ?_
  refine r_cip [[(a, .inr (3, [.int 0, .ref (u_6 0 0), .null, .null]))], gC G (u_6 0) iC_8_2 tC_9_3 sC_10_4, [(q_8, .inr (4, [.null, .int 0, .int 0, .int 0, .int 0, .int 0, .null, .null, .null, .null, .null, .null, .int 0]))]] [[(q_8, .inr (4, [.null, .int 0, .int 0, .int 0, .int 0, .int 0, .null, .null, .null, .null, .null, .null, .int 0]))]] 3 [0, 1] 2 ([(a, .inr (3, [.int 0, .ref (u_6 0 0), .null, .null]))] ++ gC G (u_6 0) iC_8_2 tC_9_3 sC_10_4) (As := [.ref (u_6 0 0)]) (rest := [.ref q_8, .ref a]) X sc_X3_18 rfl tw_265 (c_X4_init l G N q_8 (u_6 0 0)) hP hD hS hA rfl (by decide) (by simp only [List.flatten_cons, List.flatten_nil, List.append_assoc, List.append_nil, List.cons_append, List.nil_append]) rfl rfl (by simp only [pk, List.map_cons, List.map_nil, List.getD_cons_zero, List.getD_cons_succ, List.flatten_cons, List.flatten_nil, List.append_assoc, List.append_nil, List.cons_append, List.nil_append]) rfl hl.1 (lv_room (Nat.le_of_ble_eq_true rfl)) ⟨Nat.le_of_ble_eq_true rfl, Nat.le_of_ble_eq_true rfl⟩ ⟨Nat.le_of_ble_eq_true rfl, Nat.le_of_ble_eq_true rfl⟩ dX3_init_24 (fun u_9 H locs hadr_10 hP hD hS => ?_)
  refine W.widen (k := 15) (n := 303) (Nat.le_of_ble_eq_true rfl) (Nat.le_of_ble_eq_true rfl) ?_
  replace hP : va_P G.1 vwCl ([(a, .inr (3, [.int 0, .ref (u_6 0 0), .null, .null]))] ++ gC G (u_6 0) iC_8_2 tC_9_3 sC_10_4 ++ gM G (u_9 0) (u_6 0 0) (fun _ => 0) (fun _ _ => 0)) H := hP
  replace hD : va_D A ([(a, .inr (3, [.int 0, .ref (u_6 0 0), .null, .null]))] ++ gC G (u_6 0) iC_8_2 tC_9_3 sC_10_4 ++ gM G (u_9 0) (u_6 0 0) (fun _ => 0) (fun _ _ => 0)) := hD
  rw [← hadr_10]
  replace hP : va_P G.1 vwCl ([(a, .inr (3, [.int 0, .ref (u_6 0 0), .null, .null]))] ++ gC G (u_6 0) iC_8_2 tC_9_3 sC_10_4 ++ gM G (u_9 0) (u_6 0 0) (fun _ => 0) (fun _ _ => 0)) H := hP
  replace hD : va_D A ([(a, .inr (3, [.int 0, .ref (u_6 0 0), .null, .null]))] ++ gC G (u_6 0) iC_8_2 tC_9_3 sC_10_4 ++ gM G (u_9 0) (u_6 0 0) (fun _ => 0) (fun _ _ => 0)) := hD
  refine va_putF (D := G.1) (ci := 3) (v := .ref (u_9 0 0)) (C := RX3) (T := TX3) (N := 4) X.hx X.hb X.hts hu_3 tyX3 tyX3_ok nmX3 X.hown X.hK hP hD hS 0 rfl rfl 2 (by decide) (X.hts _ tw_489) (fun _ h9 => h9) rfl hin rfl (tyX3_ok 2 (by decide)) rfl rfl (Nat.le_of_ble_eq_true rfl) dX3_init_27 (fun H locs hP hD hS => ?_)
  replace hP : va_P G.1 vwCl ([(a, .inr (3, [.int 0, .ref (u_6 0 0), .ref (u_9 0 0), .null]))] ++ gC G (u_6 0) iC_8_2 tC_9_3 sC_10_4 ++ gM G (u_9 0) (u_6 0 0) (fun _ => 0) (fun _ _ => 0)) H := hP
  replace hD : va_D A ([(a, .inr (3, [.int 0, .ref (u_6 0 0), .ref (u_9 0 0), .null]))] ++ gC G (u_6 0) iC_8_2 tC_9_3 sC_10_4 ++ gM G (u_9 0) (u_6 0 0) (fun _ => 0) (fun _ _ => 0)) := hD
  refine lv_aload_n X.hx X.hb dX3_init_30 rfl (lv_at hl 0 rfl) ?_
  refine va_new (C := RX6) (T := TX6) (N := 6) (ci := 6) (fs := [.int 0, .int 0, .null, .null, .null, .null]) X.hx X.hb X.hts hu_6 tyX6 tyX6_ok X.hown (X.hts _ tw_484) (X.hts _ tw_429) (X.hts _ tw_14) X.hK hP hD hS hA rfl (ct_fs (by decide +kernel)) (Nat.le_of_ble_eq_true rfl) (Nat.le_of_ble_eq_true rfl) dX3_init_31 (fun q_11 H hP hD hS => ?_)
  refine W.widen (k := 16) (n := 309) (Nat.le_of_ble_eq_true rfl) (Nat.le_of_ble_eq_true rfl) ?_
  replace hP : va_P G.1 vwCl ([(a, .inr (3, [.int 0, .ref (u_6 0 0), .ref (u_9 0 0), .null]))] ++ gC G (u_6 0) iC_8_2 tC_9_3 sC_10_4 ++ gM G (u_9 0) (u_6 0 0) (fun _ => 0) (fun _ _ => 0) ++ [(q_11, .inr (6, [.int 0, .int 0, .null, .null, .null, .null]))]) H := hP
  replace hD : va_D A ([(a, .inr (3, [.int 0, .ref (u_6 0 0), .ref (u_9 0 0), .null]))] ++ gC G (u_6 0) iC_8_2 tC_9_3 sC_10_4 ++ gM G (u_9 0) (u_6 0 0) (fun _ => 0) (fun _ _ => 0) ++ [(q_11, .inr (6, [.int 0, .int 0, .null, .null, .null, .null]))]) := hD
  refine lv_dup X.hx X.hb dX3_init_34 rfl ?_
  refine r_cipN [[(a, .inr (3, [.int 0, .ref (u_6 0 0), .ref (u_9 0 0), .null]))], gC G (u_6 0) iC_8_2 tC_9_3 sC_10_4, gM G (u_9 0) (u_6 0 0) (fun _ => 0) (fun _ _ => 0), [(q_11, .inr (6, [.int 0, .int 0, .null, .null, .null, .null]))]] [[(q_11, .inr (6, [.int 0, .int 0, .null, .null, .null, .null]))]] 4 [0, 1, 2] 3 ([(a, .inr (3, [.int 0, .ref (u_6 0 0), .ref (u_9 0 0), .null]))] ++ gC G (u_6 0) iC_8_2 tC_9_3 sC_10_4 ++ gM G (u_9 0) (u_6 0 0) (fun _ => 0) (fun _ _ => 0)) (As := []) (rest := [.ref q_11, .ref a]) X sc_X3_27 rfl tw_431 (c_X6_init l G N q_11) hP hD hS hA rfl (by decide) (by simp only [List.flatten_cons, List.flatten_nil, List.append_assoc, List.append_nil, List.cons_append, List.nil_append]) rfl rfl (by simp only [pk, List.map_cons, List.map_nil, List.getD_cons_zero, List.getD_cons_succ, List.flatten_cons, List.flatten_nil, List.append_assoc, List.append_nil, List.cons_append, List.nil_append]) rfl hl.1 (lv_room (Nat.le_of_ble_eq_true rfl)) ⟨Nat.le_of_ble_eq_true rfl, Nat.le_of_ble_eq_true rfl⟩ ⟨Nat.le_of_ble_eq_true rfl, Nat.le_of_ble_eq_true rfl⟩ dX3_init_35 (fun u_12 H locs hadr_13 hP hD hS => ?_)
  refine W.widen (k := 20) (n := 449) (Nat.le_of_ble_eq_true rfl) (Nat.le_of_ble_eq_true rfl) ?_
  replace hP : va_P G.1 vwCl ([(a, .inr (3, [.int 0, .ref (u_6 0 0), .ref (u_9 0 0), .null]))] ++ gC G (u_6 0) iC_8_2 tC_9_3 sC_10_4 ++ gM G (u_9 0) (u_6 0 0) (fun _ => 0) (fun _ _ => 0) ++ gS G (u_12 0) (fun _ => 0) (fun _ _ => 0)) H := hP
  replace hD : va_D A ([(a, .inr (3, [.int 0, .ref (u_6 0 0), .ref (u_9 0 0), .null]))] ++ gC G (u_6 0) iC_8_2 tC_9_3 sC_10_4 ++ gM G (u_9 0) (u_6 0 0) (fun _ => 0) (fun _ _ => 0) ++ gS G (u_12 0) (fun _ => 0) (fun _ _ => 0)) := hD
  rw [← hadr_13]
  replace hP : va_P G.1 vwCl ([(a, .inr (3, [.int 0, .ref (u_6 0 0), .ref (u_9 0 0), .null]))] ++ gC G (u_6 0) iC_8_2 tC_9_3 sC_10_4 ++ gM G (u_9 0) (u_6 0 0) (fun _ => 0) (fun _ _ => 0) ++ gS G (u_12 0) (fun _ => 0) (fun _ _ => 0)) H := hP
  replace hD : va_D A ([(a, .inr (3, [.int 0, .ref (u_6 0 0), .ref (u_9 0 0), .null]))] ++ gC G (u_6 0) iC_8_2 tC_9_3 sC_10_4 ++ gM G (u_9 0) (u_6 0 0) (fun _ => 0) (fun _ _ => 0) ++ gS G (u_12 0) (fun _ => 0) (fun _ _ => 0)) := hD
  refine va_putF (D := G.1) (ci := 3) (v := .ref (u_12 0 0)) (C := RX3) (T := TX3) (N := 4) X.hx X.hb X.hts hu_3 tyX3 tyX3_ok nmX3 X.hown X.hK hP hD hS 0 rfl rfl 3 (by decide) (X.hts _ tw_491) (fun _ h9 => h9) rfl hin rfl (tyX3_ok 3 (by decide)) rfl rfl (Nat.le_of_ble_eq_true rfl) dX3_init_38 (fun H locs hP hD hS => ?_)
  replace hP : va_P G.1 vwCl ([(a, .inr (3, [.int 0, .ref (u_6 0 0), .ref (u_9 0 0), .ref (u_12 0 0)]))] ++ gC G (u_6 0) iC_8_2 tC_9_3 sC_10_4 ++ gM G (u_9 0) (u_6 0 0) (fun _ => 0) (fun _ _ => 0) ++ gS G (u_12 0) (fun _ => 0) (fun _ _ => 0)) H := hP
  replace hD : va_D A ([(a, .inr (3, [.int 0, .ref (u_6 0 0), .ref (u_9 0 0), .ref (u_12 0 0)]))] ++ gC G (u_6 0) iC_8_2 tC_9_3 sC_10_4 ++ gM G (u_9 0) (u_6 0 0) (fun _ => 0) (fun _ _ => 0) ++ gS G (u_12 0) (fun _ => 0) (fun _ _ => 0)) := hD
  replace hP : va_P G.1 vwCl (gI G (ul [a]) (u_6 0 0) (u_9 0 0) (u_12 0 0) (fun _ => 0) ++ gC G (u_6 0) iC_8_2 tC_9_3 sC_10_4 ++ gM G (u_9 0) (u_6 0 0) (fun _ => 0) (fun _ _ => 0) ++ gS G (u_12 0) (fun _ => 0) (fun _ _ => 0)) H := hP.sub (ws' := (gI G (ul [a]) (u_6 0 0) (u_9 0 0) (u_12 0 0) (fun _ => 0) ++ gC G (u_6 0) iC_8_2 tC_9_3 sC_10_4 ++ gM G (u_9 0) (u_6 0 0) (fun _ => 0) (fun _ _ => 0) ++ gS G (u_12 0) (fun _ => 0) (fun _ _ => 0))) [0, 1, 2, 3, 4, 5, 6, 7, 8, 9, 10, 11, 12, 13, 14, 15, 16, 17, 18, 19, 20] rfl
  replace hD : va_D A (gI G (ul [a]) (u_6 0 0) (u_9 0 0) (u_12 0 0) (fun _ => 0) ++ gC G (u_6 0) iC_8_2 tC_9_3 sC_10_4 ++ gM G (u_9 0) (u_6 0 0) (fun _ => 0) (fun _ _ => 0) ++ gS G (u_12 0) (fun _ => 0) (fun _ _ => 0)) := hD.sub (ws' := (gI G (ul [a]) (u_6 0 0) (u_9 0 0) (u_12 0 0) (fun _ => 0) ++ gC G (u_6 0) iC_8_2 tC_9_3 sC_10_4 ++ gM G (u_9 0) (u_6 0 0) (fun _ => 0) (fun _ _ => 0) ++ gS G (u_12 0) (fun _ => 0) (fun _ _ => 0))) [0, 1, 2, 3, 4, 5, 6, 7, 8, 9, 10, 11, 12, 13, 14, 15, 16, 17, 18, 19, 20] (by decide) rfl
  refine W.widen (k := 20) (n := 449) (Nat.le_of_ble_eq_true rfl) (Nat.le_of_ble_eq_true rfl) ?_
  exact r_nret (W' := (fun u => gI G (u 0) (u 1 0) (u 2 0) (u 3 0) (fun _ => 0) ++ gC G (u 1) iC_8_2 tC_9_3 sC_10_4 ++ gM G (u 2) (u 1 0) (fun _ => 0) (fun _ _ => 0) ++ gS G (u 3) (fun _ => 0) (fun _ _ => 0))) X (ulf [(ul [a]), (u_6 0), (u_9 0), (u_12 0)]) rfl hP hD hS dX3_init_41

