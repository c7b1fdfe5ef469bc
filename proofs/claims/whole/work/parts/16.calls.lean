section CW
variable {p : Program} {l : Launch} {e : Env} {R : Room} {s : State} {m : MethodId} {args : Array Value} {below : List Frame} {meth : Method} {c : Code} {H : Heap} {locs : List Loc} {cells slots : Nat} {Q : State → Prop}
variable {G : GT} {own : String} {cc : ByteArray} {nL : Nat} {ret : Option FieldType} {A : Nat → Prop} {ws wo : va_W} {pc a : Nat} {ls : Array Slot} {rest : List Value}
variable {idx : Nat} {y : MethodName} {c2 : ByteArray} {n2 n d2 : Nat} {rt : FieldType} {As : List Value} {b : Nat} {r : Int32}
theorem fr_all (hD : va_D A ws) (hS : va_S A s.heap H locs) (hA : ∀ q : Nat, s.heap.size ≤ q → A q) : ∀ q, va_A ws H.size q → A q := by
  intro q h
  rcases h with ⟨k, e, h⟩ | h
  · exact hD.2 k (q, e) h
  · exact hA q (Nat.le_trans hS.1 h)
theorem r_awi (hr : va_Run p l e R s m args below meth c H locs cells slots 0 0 (F0 m pc ls rest) As (QI G (va_A ws H.size) r wo args) (va_A ws H.size)) (hD : va_D A ws) (hS : va_S A s.heap H locs) (hA : ∀ q : Nat, s.heap.size ≤ q → A q)
    (kk : ∀ (H1 : Heap) (locs1 : List Loc), va_P G.1 vwCl wo H1 → va_D A wo → va_S A s.heap H1 locs1 → W p l e R s m args below meth c H1 locs1 cells slots Q (F0 m (pc + 3) ls (.int r :: As))) : W p l e R s m args below meth c H locs cells slots Q (F0 m pc ls rest) := by
  have hF := fr_all hD hS hA
  refine va_calli hr hS (fun q _ h => hF q h) hF (fun r' u t H1 locs1 ht hvm hw hB hz hk hS1 => ?_)
  obtain ⟨hP1, hD1⟩ := hB
  rw [ht] at hP1
  rw [hw]
  exact kk H1 locs1 hP1 (hD1.weaken (fun k q _ h => hF q.1 h)) hS1
theorem r_awv (hr : va_Run p l e R s m args below meth c H locs cells slots 0 0 (F0 m pc ls rest) As (QV G (va_A ws H.size) wo args) (va_A ws H.size)) (hD : va_D A ws) (hS : va_S A s.heap H locs) (hA : ∀ q : Nat, s.heap.size ≤ q → A q)
    (kk : ∀ (H1 : Heap) (locs1 : List Loc), va_P G.1 vwCl wo H1 → va_D A wo → va_S A s.heap H1 locs1 → W p l e R s m args below meth c H1 locs1 cells slots Q (F0 m (pc + 3) ls As)) : W p l e R s m args below meth c H locs cells slots Q (F0 m pc ls rest) := by
  have hF := fr_all hD hS hA
  refine va_callv hr hS (fun q _ h => hF q h) hF (fun u t H1 locs1 ht hvm hw hB hz hk hS1 => ?_)
  obtain ⟨hP1, hD1⟩ := hB
  rw [ht] at hP1
  exact kk H1 locs1 hP1 (hD1.weaken (fun k q _ h => hF q.1 h)) hS1
/-- calls that take the whole world -/
theorem r_wvi (X : CX G A own cc nL ret p s m args meth c) (K : SV own idx y c2 n2 (some rt) n) (hM : CI l G y c2 n2 rt d2 (.ref b :: As) ws r wo) (hP : va_P G.1 vwCl ws H) (hD : va_D A ws) (hS : va_S A s.heap H locs) (hA : ∀ q : Nat, s.heap.size ≤ q → A q)
    (q0 : Nat) {ci : Nat} {fs : List Value} {T : u_T} {N : Nat} (he : ws[q0]? = some (b, .inr (ci, fs))) (hc : vwCl[ci]? = some (y.cls, T, N))
    (hnn : As.length = n) (hls : ls.size = nL) (hW : 2 * (F0 m pc ls (As.reverse ++ .ref b :: rest)).monitorRoom + (rest.map fun v => v.category).sum ≤ 8) (hR : d2 + 1 ≤ R.frames ∧ 8 + (n2 + 11) + 60 * d2 ≤ R.locals) (hf : cells ≤ R.cells ∧ slots ≤ R.slots) (hdg : decode cc pc = .ok (.invokevirtual idx, 3))
    (kk : ∀ (H1 : Heap) (locs1 : List Loc), va_P G.1 vwCl wo H1 → va_D A wo → va_S A s.heap H1 locs1 → W p l e R s m args below meth c H1 locs1 cells slots Q (F0 m (pc + 3) ls (.int r :: rest))) : W p l e R s m args below meth c H locs cells slots Q (F0 m pc ls (As.reverse ++ .ref b :: rest)) :=
  r_awi (As := rest) (va_runV (As := As) (rest := rest) X.fix (hM H.size) ⟨SB.cb X K.1 hR, X.hts _ K.2.1, X.hts _ K.2.2⟩ (preV_of X hP q0 he hc hP hD hS (fr_all hD hS hA)) rfl hnn hls rfl hW hdg hf) hD hS hA kk
theorem r_wvv (X : CX G A own cc nL ret p s m args meth c) (K : SV own idx y c2 n2 none n) (hM : CV l G y c2 n2 d2 (.ref b :: As) ws wo) (hP : va_P G.1 vwCl ws H) (hD : va_D A ws) (hS : va_S A s.heap H locs) (hA : ∀ q : Nat, s.heap.size ≤ q → A q)
    (q0 : Nat) {ci : Nat} {fs : List Value} {T : u_T} {N : Nat} (he : ws[q0]? = some (b, .inr (ci, fs))) (hc : vwCl[ci]? = some (y.cls, T, N))
    (hnn : As.length = n) (hls : ls.size = nL) (hW : 2 * (F0 m pc ls (As.reverse ++ .ref b :: rest)).monitorRoom + (rest.map fun v => v.category).sum ≤ 8) (hR : d2 + 1 ≤ R.frames ∧ 8 + (n2 + 11) + 60 * d2 ≤ R.locals) (hf : cells ≤ R.cells ∧ slots ≤ R.slots) (hdg : decode cc pc = .ok (.invokevirtual idx, 3))
    (kk : ∀ (H1 : Heap) (locs1 : List Loc), va_P G.1 vwCl wo H1 → va_D A wo → va_S A s.heap H1 locs1 → W p l e R s m args below meth c H1 locs1 cells slots Q (F0 m (pc + 3) ls rest)) : W p l e R s m args below meth c H locs cells slots Q (F0 m pc ls (As.reverse ++ .ref b :: rest)) :=
  r_awv (As := rest) (va_runV (As := As) (rest := rest) X.fix (hM H.size) ⟨SB.cb X K.1 hR, X.hts _ K.2.1, X.hts _ K.2.2⟩ (preV_of X hP q0 he hc hP hD hS (fr_all hD hS hA)) rfl hnn hls rfl hW hdg hf) hD hS hA kk
theorem r_wsi (X : CX G A own cc nL ret p s m args meth c) (K : SS own idx y c2 n2 (some rt) n) (hM : CI l G y c2 n2 rt d2 As ws r wo) (hP : va_P G.1 vwCl ws H) (hD : va_D A ws) (hS : va_S A s.heap H locs) (hA : ∀ q : Nat, s.heap.size ≤ q → A q)
    (hnn : As.length = n) (hls : ls.size = nL) (hW : 2 * (F0 m pc ls (As.reverse ++ rest)).monitorRoom + (rest.map fun v => v.category).sum ≤ 8) (hR : d2 + 1 ≤ R.frames ∧ 8 + (n2 + 11) + 60 * d2 ≤ R.locals) (hf : cells ≤ R.cells ∧ slots ≤ R.slots) (hdg : decode cc pc = .ok (.invokestatic idx, 3))
    (kk : ∀ (H1 : Heap) (locs1 : List Loc), va_P G.1 vwCl wo H1 → va_D A wo → va_S A s.heap H1 locs1 → W p l e R s m args below meth c H1 locs1 cells slots Q (F0 m (pc + 3) ls (.int r :: rest))) : W p l e R s m args below meth c H locs cells slots Q (F0 m pc ls (As.reverse ++ rest)) :=
  r_awi (As := rest) (va_runS (As := As) (rest := rest) X.fix (hM H.size) ⟨SB.cb X K.1 hR, X.hts _ K.2⟩ (preS_of X hP hD hS (fr_all hD hS hA)) rfl hnn hls rfl hW hdg hf) hD hS hA kk
theorem r_wsv (X : CX G A own cc nL ret p s m args meth c) (K : SS own idx y c2 n2 none n) (hM : CV l G y c2 n2 d2 As ws wo) (hP : va_P G.1 vwCl ws H) (hD : va_D A ws) (hS : va_S A s.heap H locs) (hA : ∀ q : Nat, s.heap.size ≤ q → A q)
    (hnn : As.length = n) (hls : ls.size = nL) (hW : 2 * (F0 m pc ls (As.reverse ++ rest)).monitorRoom + (rest.map fun v => v.category).sum ≤ 8) (hR : d2 + 1 ≤ R.frames ∧ 8 + (n2 + 11) + 60 * d2 ≤ R.locals) (hf : cells ≤ R.cells ∧ slots ≤ R.slots) (hdg : decode cc pc = .ok (.invokestatic idx, 3))
    (kk : ∀ (H1 : Heap) (locs1 : List Loc), va_P G.1 vwCl wo H1 → va_D A wo → va_S A s.heap H1 locs1 → W p l e R s m args below meth c H1 locs1 cells slots Q (F0 m (pc + 3) ls rest)) : W p l e R s m args below meth c H locs cells slots Q (F0 m pc ls (As.reverse ++ rest)) :=
  r_awv (As := rest) (va_runS (As := As) (rest := rest) X.fix (hM H.size) ⟨SB.cb X K.1 hR, X.hts _ K.2⟩ (preS_of X hP hD hS (fr_all hD hS hA)) rfl hnn hls rfl hW hdg hf) hD hS hA kk
end CW
/-! a callee whose world is a run of the caller's -/
theorem vd_iff {A : Nat → Prop} {ws : va_W} : va_D A ws ↔ ws.Pairwise (fun p q => p.1 ≠ q.1) ∧ ∀ q ∈ ws, A q.1 := by
  constructor
  · intro h
    refine ⟨List.pairwise_iff_getElem.mpr (fun i j hi hj hij he => ?_), fun q hq => ?_⟩
    · exact absurd (h.1 i j _ _ (List.getElem?_eq_getElem hi) (List.getElem?_eq_getElem hj) he) (Nat.ne_of_lt hij)
    · obtain ⟨k, hk⟩ := List.getElem?_of_mem hq
      exact h.2 k q hk
  · intro h
    have hp := List.pairwise_iff_getElem.mp h.1
    refine ⟨fun i j p q hi hj he => ?_, fun k q hk => h.2 q (List.mem_of_getElem? hk)⟩
    obtain ⟨h1, e1⟩ := List.getElem?_eq_some_iff.mp hi
    obtain ⟨h2, e2⟩ := List.getElem?_eq_some_iff.mp hj
    rcases Nat.lt_trichotomy i j with h3 | h3 | h3
    · exact absurd (by rw [e1, e2]; exact he) (hp i j h1 h2 h3)
    · exact h3
    · exact absurd (by rw [e1, e2]; exact he.symm) (hp j i h2 h1 h3)
theorem vp_iff {D : va_G} {cl : List vw_C} {ws : va_W} {H : Heap} : va_P D cl ws H ↔ ∀ q ∈ ws, va_at D cl q H := by
  constructor
  · intro h q hq
    obtain ⟨k, hk⟩ := List.getElem?_of_mem hq
    exact h k q hk
  · intro h k q hk
    exact h q (List.mem_of_getElem? hk)
theorem vb_ok {D : va_G} {cl : List vw_C} {A : Nat → Prop} {L wc R wc' : va_W} {H H1 : Heap} (hP : va_P D cl (L ++ (wc ++ R)) H) (hD : va_D A (L ++ (wc ++ R)))
    (hk : ∀ q : Nat, q < H.size → ¬ va_A wc H.size q → H1[q]? = H[q]?) (hF : ∀ q, va_A wc H.size q → A q) (hP1 : va_P D cl wc' H1) (hD1 : va_D (va_A wc H.size) wc') : va_P D cl (L ++ (wc' ++ R)) H1 ∧ va_D A (L ++ (wc' ++ R)) := by
  have p0 := vp_iff.mp hP
  have d0 := vd_iff.mp hD
  have p1 := vp_iff.mp hP1
  have d1 := vd_iff.mp hD1
  obtain ⟨w1, w2⟩ := d0
  obtain ⟨wL, wCR, wX⟩ := List.pairwise_append.mp w1
  obtain ⟨wC, wR, wY⟩ := List.pairwise_append.mp wCR
  have lt : ∀ q ∈ L ++ (wc ++ R), q.1 < H.size := fun q hq => by
    obtain ⟨k, hk⟩ := List.getElem?_of_mem hq
    exact (hP k q hk).lt
  have aL : ∀ q ∈ L, ¬ va_A wc H.size q.1 := by
    intro q hq h
    rcases h with ⟨k, e, h⟩ | h
    · exact wX q hq _ (List.mem_append_left _ (List.mem_of_getElem? h)) rfl
    · have := lt q (List.mem_append_left _ hq); omega
  have aR : ∀ q ∈ R, ¬ va_A wc H.size q.1 := by
    intro q hq h
    rcases h with ⟨k, e, h⟩ | h
    · exact wY _ (List.mem_of_getElem? h) q hq rfl
    · have := lt q (List.mem_append_right _ (List.mem_append_right _ hq)); omega
  have key : ∀ q ∈ L ++ (wc ++ R), ¬ va_A wc H.size q.1 → va_at D cl q H1 := fun q hq ha => by
    obtain ⟨k, hk2⟩ := List.getElem?_of_mem hq
    exact (hP k q hk2).kept (hk q.1 (lt q hq) ha)
  refine ⟨vp_iff.mpr (fun q hq => ?_), vd_iff.mpr ⟨?_, fun q hq => ?_⟩⟩
  · rcases List.mem_append.mp hq with h | h
    · exact key q (List.mem_append_left _ h) (aL q h)
    · rcases List.mem_append.mp h with h | h
      · exact p1 q h
      · exact key q (List.mem_append_right _ (List.mem_append_right _ h)) (aR q h)
  · refine List.pairwise_append.mpr ⟨wL, List.pairwise_append.mpr ⟨d1.1, wR, fun x hx y hy e => ?_⟩, fun x hx y hy e => ?_⟩
    · exact aR y hy (by rw [← e]; exact d1.2 x hx)
    · rcases List.mem_append.mp hy with h | h
      · exact aL x hx (by rw [e]; exact d1.2 y h)
      · exact wX x hx y (List.mem_append_right _ h) e
  · rcases List.mem_append.mp hq with h | h
    · exact w2 q (List.mem_append_left _ h)
    · rcases List.mem_append.mp h with h | h
      · exact hF _ (d1.2 q h)
      · exact w2 q (List.mem_append_right _ (List.mem_append_right _ h))
theorem vb_sub {D : va_G} {cl : List vw_C} {A : Nat → Prop} {L wc R : va_W} {H : Heap} (hP : va_P D cl (L ++ (wc ++ R)) H) (hD : va_D A (L ++ (wc ++ R))) : va_P D cl wc H ∧ va_D A wc := by
  have p0 := vp_iff.mp hP
  have d0 := vd_iff.mp hD
  have w := List.pairwise_append.mp (List.pairwise_append.mp d0.1).2.1
  exact ⟨vp_iff.mpr (fun q hq => p0 q (List.mem_append_right _ (List.mem_append_left _ hq))), vd_iff.mpr ⟨w.1, fun q hq => d0.2 q (List.mem_append_right _ (List.mem_append_left _ hq))⟩⟩
section CB
variable {p : Program} {l : Launch} {e : Env} {R : Room} {s : State} {m : MethodId} {args : Array Value} {below : List Frame} {meth : Method} {c : Code} {H : Heap} {locs : List Loc} {cells slots : Nat} {Q : State → Prop}
variable {G : GT} {own : String} {cc : ByteArray} {nL : Nat} {ret : Option FieldType} {A : Nat → Prop} {wc wc' : va_W} {pc a : Nat} {ls : Array Slot} {rest : List Value}
variable {idx : Nat} {y : MethodName} {c2 : ByteArray} {n2 n d2 : Nat} {rt : FieldType} {As : List Value} {b : Nat} {r : Int32}
theorem r_abi (L Rr : va_W) (hr : va_Run p l e R s m args below meth c H locs cells slots 0 0 (F0 m pc ls rest) As (QI G (va_A wc H.size) r wc' args) (va_A wc H.size)) (hP : va_P G.1 vwCl (L ++ (wc ++ Rr)) H) (hD : va_D A (L ++ (wc ++ Rr))) (hS : va_S A s.heap H locs) (hA : ∀ q : Nat, s.heap.size ≤ q → A q)
    (kk : ∀ (H1 : Heap) (locs1 : List Loc), va_P G.1 vwCl (L ++ (wc' ++ Rr)) H1 → va_D A (L ++ (wc' ++ Rr)) → va_S A s.heap H1 locs1 → W p l e R s m args below meth c H1 locs1 cells slots Q (F0 m (pc + 3) ls (.int r :: As))) : W p l e R s m args below meth c H locs cells slots Q (F0 m pc ls rest) := by
  have hF := fr_all (vb_sub hP hD).2 hS hA
  refine va_calli hr hS (fun q _ h => hF q h) hF (fun r' u t H1 locs1 ht hvm hw hB hz hk hS1 => ?_)
  obtain ⟨hP1, hD1⟩ := hB
  rw [ht] at hP1
  obtain ⟨hP2, hD2⟩ := vb_ok hP hD hk hF hP1 hD1
  rw [hw]
  exact kk H1 locs1 hP2 hD2 hS1
theorem r_abv (L Rr : va_W) (hr : va_Run p l e R s m args below meth c H locs cells slots 0 0 (F0 m pc ls rest) As (QV G (va_A wc H.size) wc' args) (va_A wc H.size)) (hP : va_P G.1 vwCl (L ++ (wc ++ Rr)) H) (hD : va_D A (L ++ (wc ++ Rr))) (hS : va_S A s.heap H locs) (hA : ∀ q : Nat, s.heap.size ≤ q → A q)
    (kk : ∀ (H1 : Heap) (locs1 : List Loc), va_P G.1 vwCl (L ++ (wc' ++ Rr)) H1 → va_D A (L ++ (wc' ++ Rr)) → va_S A s.heap H1 locs1 → W p l e R s m args below meth c H1 locs1 cells slots Q (F0 m (pc + 3) ls As)) : W p l e R s m args below meth c H locs cells slots Q (F0 m pc ls rest) := by
  have hF := fr_all (vb_sub hP hD).2 hS hA
  refine va_callv hr hS (fun q _ h => hF q h) hF (fun u t H1 locs1 ht hvm hw hB hz hk hS1 => ?_)
  obtain ⟨hP1, hD1⟩ := hB
  rw [ht] at hP1
  obtain ⟨hP2, hD2⟩ := vb_ok hP hD hk hF hP1 hD1
  exact kk H1 locs1 hP2 hD2 hS1
variable {ws wo : va_W}
theorem r_bvi (L Rr : va_W) (X : CX G A own cc nL ret p s m args meth c) (K : SV own idx y c2 n2 (some rt) n) (hM : CI l G y c2 n2 rt d2 (.ref b :: As) wc r wc') (hP : va_P G.1 vwCl ws H) (hD : va_D A ws) (hS : va_S A s.heap H locs) (hA : ∀ q : Nat, s.heap.size ≤ q → A q) (hw : ws = L ++ (wc ++ Rr)) (ho : L ++ (wc' ++ Rr) = wo)
    (q0 : Nat) {ci : Nat} {fs : List Value} {T : u_T} {N : Nat} (he : wc[q0]? = some (b, .inr (ci, fs))) (hc : vwCl[ci]? = some (y.cls, T, N))
    (hnn : As.length = n) (hls : ls.size = nL) (hW : 2 * (F0 m pc ls (As.reverse ++ .ref b :: rest)).monitorRoom + (rest.map fun v => v.category).sum ≤ 8) (hR : d2 + 1 ≤ R.frames ∧ 8 + (n2 + 11) + 60 * d2 ≤ R.locals) (hf : cells ≤ R.cells ∧ slots ≤ R.slots) (hdg : decode cc pc = .ok (.invokevirtual idx, 3))
    (kk : ∀ (H1 : Heap) (locs1 : List Loc), va_P G.1 vwCl wo H1 → va_D A wo → va_S A s.heap H1 locs1 → W p l e R s m args below meth c H1 locs1 cells slots Q (F0 m (pc + 3) ls (.int r :: rest))) : W p l e R s m args below meth c H locs cells slots Q (F0 m pc ls (As.reverse ++ .ref b :: rest)) := by
  subst hw; subst ho
  exact r_abi L Rr (As := rest) (va_runV (As := As) (rest := rest) X.fix (hM H.size) ⟨SB.cb X K.1 hR, X.hts _ K.2.1, X.hts _ K.2.2⟩ (preV_of X (vb_sub hP hD).1 q0 he hc (vb_sub hP hD).1 (vb_sub hP hD).2 hS (fr_all (vb_sub hP hD).2 hS hA)) rfl hnn hls rfl hW hdg hf) hP hD hS hA kk
theorem r_bvv (L Rr : va_W) (X : CX G A own cc nL ret p s m args meth c) (K : SV own idx y c2 n2 none n) (hM : CV l G y c2 n2 d2 (.ref b :: As) wc wc') (hP : va_P G.1 vwCl ws H) (hD : va_D A ws) (hS : va_S A s.heap H locs) (hA : ∀ q : Nat, s.heap.size ≤ q → A q) (hw : ws = L ++ (wc ++ Rr)) (ho : L ++ (wc' ++ Rr) = wo)
    (q0 : Nat) {ci : Nat} {fs : List Value} {T : u_T} {N : Nat} (he : wc[q0]? = some (b, .inr (ci, fs))) (hc : vwCl[ci]? = some (y.cls, T, N))
    (hnn : As.length = n) (hls : ls.size = nL) (hW : 2 * (F0 m pc ls (As.reverse ++ .ref b :: rest)).monitorRoom + (rest.map fun v => v.category).sum ≤ 8) (hR : d2 + 1 ≤ R.frames ∧ 8 + (n2 + 11) + 60 * d2 ≤ R.locals) (hf : cells ≤ R.cells ∧ slots ≤ R.slots) (hdg : decode cc pc = .ok (.invokevirtual idx, 3))
    (kk : ∀ (H1 : Heap) (locs1 : List Loc), va_P G.1 vwCl wo H1 → va_D A wo → va_S A s.heap H1 locs1 → W p l e R s m args below meth c H1 locs1 cells slots Q (F0 m (pc + 3) ls rest)) : W p l e R s m args below meth c H locs cells slots Q (F0 m pc ls (As.reverse ++ .ref b :: rest)) := by
  subst hw; subst ho
  exact r_abv L Rr (As := rest) (va_runV (As := As) (rest := rest) X.fix (hM H.size) ⟨SB.cb X K.1 hR, X.hts _ K.2.1, X.hts _ K.2.2⟩ (preV_of X (vb_sub hP hD).1 q0 he hc (vb_sub hP hD).1 (vb_sub hP hD).2 hS (fr_all (vb_sub hP hD).2 hS hA)) rfl hnn hls rfl hW hdg hf) hP hD hS hA kk
theorem r_bsi (L Rr : va_W) (X : CX G A own cc nL ret p s m args meth c) (K : SS own idx y c2 n2 (some rt) n) (hM : CI l G y c2 n2 rt d2 As wc r wc') (hP : va_P G.1 vwCl ws H) (hD : va_D A ws) (hS : va_S A s.heap H locs) (hA : ∀ q : Nat, s.heap.size ≤ q → A q) (hw : ws = L ++ (wc ++ Rr)) (ho : L ++ (wc' ++ Rr) = wo)
    (hnn : As.length = n) (hls : ls.size = nL) (hW : 2 * (F0 m pc ls (As.reverse ++ rest)).monitorRoom + (rest.map fun v => v.category).sum ≤ 8) (hR : d2 + 1 ≤ R.frames ∧ 8 + (n2 + 11) + 60 * d2 ≤ R.locals) (hf : cells ≤ R.cells ∧ slots ≤ R.slots) (hdg : decode cc pc = .ok (.invokestatic idx, 3))
    (kk : ∀ (H1 : Heap) (locs1 : List Loc), va_P G.1 vwCl wo H1 → va_D A wo → va_S A s.heap H1 locs1 → W p l e R s m args below meth c H1 locs1 cells slots Q (F0 m (pc + 3) ls (.int r :: rest))) : W p l e R s m args below meth c H locs cells slots Q (F0 m pc ls (As.reverse ++ rest)) := by
  subst hw; subst ho
  exact r_abi L Rr (As := rest) (va_runS (As := As) (rest := rest) X.fix (hM H.size) ⟨SB.cb X K.1 hR, X.hts _ K.2⟩ (preS_of X (vb_sub hP hD).1 (vb_sub hP hD).2 hS (fr_all (vb_sub hP hD).2 hS hA)) rfl hnn hls rfl hW hdg hf) hP hD hS hA kk
theorem r_bsv (L Rr : va_W) (X : CX G A own cc nL ret p s m args meth c) (K : SS own idx y c2 n2 none n) (hM : CV l G y c2 n2 d2 As wc wc') (hP : va_P G.1 vwCl ws H) (hD : va_D A ws) (hS : va_S A s.heap H locs) (hA : ∀ q : Nat, s.heap.size ≤ q → A q) (hw : ws = L ++ (wc ++ Rr)) (ho : L ++ (wc' ++ Rr) = wo)
    (hnn : As.length = n) (hls : ls.size = nL) (hW : 2 * (F0 m pc ls (As.reverse ++ rest)).monitorRoom + (rest.map fun v => v.category).sum ≤ 8) (hR : d2 + 1 ≤ R.frames ∧ 8 + (n2 + 11) + 60 * d2 ≤ R.locals) (hf : cells ≤ R.cells ∧ slots ≤ R.slots) (hdg : decode cc pc = .ok (.invokestatic idx, 3))
    (kk : ∀ (H1 : Heap) (locs1 : List Loc), va_P G.1 vwCl wo H1 → va_D A wo → va_S A s.heap H1 locs1 → W p l e R s m args below meth c H1 locs1 cells slots Q (F0 m (pc + 3) ls rest)) : W p l e R s m args below meth c H locs cells slots Q (F0 m pc ls (As.reverse ++ rest)) := by
  subst hw; subst ho
  exact r_abv L Rr (As := rest) (va_runS (As := As) (rest := rest) X.fix (hM H.size) ⟨SB.cb X K.1 hR, X.hts _ K.2⟩ (preS_of X (vb_sub hP hD).1 (vb_sub hP hD).2 hS (fr_all (vb_sub hP hD).2 hS hA)) rfl hnn hls rfl hW hdg hf) hP hD hS hA kk
end CB
