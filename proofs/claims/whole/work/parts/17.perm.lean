/-! worlds as lists of groups, in any order -/
theorem vp_perm {D : va_G} {cl : List vw_C} {ws ws' : va_W} {H : Heap} (h : ws.Perm ws') (hP : va_P D cl ws H) : va_P D cl ws' H := vp_iff.mpr (fun q hq => vp_iff.mp hP q (h.mem_iff.mpr hq))
theorem vd_perm {A : Nat → Prop} {ws ws' : va_W} (h : ws.Perm ws') (hD : va_D A ws) : va_D A ws' := by
  have d := vd_iff.mp hD
  exact vd_iff.mpr ⟨(h.pairwise_iff (fun e e2 => e e2.symm)).mp d.1, fun q hq => d.2 q (h.mem_iff.mpr hq)⟩
def pk (L : List va_W) (js : List Nat) : List va_W := js.map (fun j => L.getD j [])
theorem pk_range (L : List va_W) : pk L (List.range L.length) = L := by
  apply List.ext_getElem
  · simp [pk]
  · intro i h1 h2
    simp [pk, List.getD_eq_getElem?_getD, h2]
theorem pk_perm (L : List va_W) (is : List Nat) (h : is.isPerm (List.range L.length) = true) : (pk L is).Perm L := by
  have h1 : is.Perm (List.range L.length) := List.isPerm_iff.mp h
  have h2 := h1.map (fun j => L.getD j [])
  exact h2.trans (by rw [show (List.range L.length).map (fun j => L.getD j []) = L from pk_range L])
theorem fl_perm {L M : List va_W} (h : L.Perm M) : L.flatten.Perm M.flatten := h.flatten
theorem pk_app (L : List va_W) (js ks : List Nat) : (pk L (js ++ ks)).flatten = (pk L js).flatten ++ (pk L ks).flatten := by simp [pk]
section PW
variable {p : Program} {l : Launch} {e : Env} {R : Room} {s : State} {m : MethodId} {args : Array Value} {below : List Frame} {meth : Method} {c : Code} {H : Heap} {locs : List Loc} {cells slots : Nat} {Q : State → Prop}
variable {G : GT} {own : String} {cc : ByteArray} {nL : Nat} {ret : Option FieldType} {A : Nat → Prop} {ws wo wc wc' : va_W} {pc a : Nat} {ls : Array Slot} {rest : List Value}
variable {idx : Nat} {y : MethodName} {c2 : ByteArray} {n2 n d2 : Nat} {rt : FieldType} {As : List Value} {b : Nat} {r : Int32}
theorem pw_in (L : List va_W) (js ks : List Nat) (hj : (js ++ ks).isPerm (List.range L.length) = true) (hw : ws = L.flatten) (hc : wc = (pk L js).flatten) : ws.Perm ([] ++ (wc ++ (pk L ks).flatten)) := by
  subst hw; subst hc
  rw [List.nil_append, ← pk_app]
  exact fl_perm (pk_perm L _ hj).symm
theorem pw_out (L L' : List va_W) (js ks : List Nat) (hj : (js ++ ks).isPerm (List.range L.length) = true) (hlen : L'.length = L.length) (hc : wc' = (pk L' js).flatten) (hk : pk L' ks = pk L ks) (ho : L'.flatten = wo) : ([] ++ (wc' ++ (pk L ks).flatten)).Perm wo := by
  subst ho; subst hc
  rw [← hk, List.nil_append, ← pk_app]
  exact fl_perm (pk_perm L' _ (by rw [hlen]; exact hj))
theorem r_pvi (L L' J J' Kl : List va_W) (n0 : Nat) (js ks : List Nat) (X : CX G A own cc nL ret p s m args meth c) (K : SV own idx y c2 n2 (some rt) n) (hM : CI l G y c2 n2 rt d2 (.ref b :: As) wc r wc') (hP : va_P G.1 vwCl ws H) (hD : va_D A ws) (hS : va_S A s.heap H locs) (hA : ∀ q : Nat, s.heap.size ≤ q → A q) (hn0 : L.length = n0) (hn1 : L'.length = n0) (hj : (js ++ ks).isPerm (List.range n0) = true) (hw : ws = L.flatten) (hJ : pk L js = J) (hc1 : wc = J.flatten) (hJ' : pk L' js = J') (hc2 : wc' = J'.flatten) (hk1 : pk L ks = Kl) (hk2 : pk L' ks = Kl) (ho : L'.flatten = wo)
    (q0 : Nat) {ci : Nat} {fs : List Value} {T : u_T} {N : Nat} (he : wc[q0]? = some (b, .inr (ci, fs))) (hc : vwCl[ci]? = some (y.cls, T, N))
    (hnn : As.length = n) (hls : ls.size = nL) (hW : 2 * (F0 m pc ls (As.reverse ++ .ref b :: rest)).monitorRoom + (rest.map fun v => v.category).sum ≤ 8) (hR : d2 + 1 ≤ R.frames ∧ 8 + (n2 + 11) + 60 * d2 ≤ R.locals) (hf : cells ≤ R.cells ∧ slots ≤ R.slots) (hdg : decode cc pc = .ok (.invokevirtual idx, 3))
    (kk : ∀ (H1 : Heap) (locs1 : List Loc), va_P G.1 vwCl wo H1 → va_D A wo → va_S A s.heap H1 locs1 → W p l e R s m args below meth c H1 locs1 cells slots Q (F0 m (pc + 3) ls (.int r :: rest))) : W p l e R s m args below meth c H locs cells slots Q (F0 m pc ls (As.reverse ++ .ref b :: rest)) :=
  have h1 := pw_in L js ks (by rw [hn0]; exact hj) hw (by rw [hJ]; exact hc1)
  have h2 := pw_out L L' js ks (by rw [hn0]; exact hj) (by rw [hn0, hn1]) (by rw [hJ']; exact hc2) (by rw [hk1, hk2]) ho
  r_bvi [] (pk L ks).flatten X K hM (vp_perm h1 hP) (vd_perm h1 hD) hS hA rfl rfl q0 he hc hnn hls hW hR hf hdg (fun H1 locs1 hP hD hS => kk H1 locs1 (vp_perm h2 hP) (vd_perm h2 hD) hS)
theorem r_pvv (L L' J J' Kl : List va_W) (n0 : Nat) (js ks : List Nat) (X : CX G A own cc nL ret p s m args meth c) (K : SV own idx y c2 n2 none n) (hM : CV l G y c2 n2 d2 (.ref b :: As) wc wc') (hP : va_P G.1 vwCl ws H) (hD : va_D A ws) (hS : va_S A s.heap H locs) (hA : ∀ q : Nat, s.heap.size ≤ q → A q) (hn0 : L.length = n0) (hn1 : L'.length = n0) (hj : (js ++ ks).isPerm (List.range n0) = true) (hw : ws = L.flatten) (hJ : pk L js = J) (hc1 : wc = J.flatten) (hJ' : pk L' js = J') (hc2 : wc' = J'.flatten) (hk1 : pk L ks = Kl) (hk2 : pk L' ks = Kl) (ho : L'.flatten = wo)
    (q0 : Nat) {ci : Nat} {fs : List Value} {T : u_T} {N : Nat} (he : wc[q0]? = some (b, .inr (ci, fs))) (hc : vwCl[ci]? = some (y.cls, T, N))
    (hnn : As.length = n) (hls : ls.size = nL) (hW : 2 * (F0 m pc ls (As.reverse ++ .ref b :: rest)).monitorRoom + (rest.map fun v => v.category).sum ≤ 8) (hR : d2 + 1 ≤ R.frames ∧ 8 + (n2 + 11) + 60 * d2 ≤ R.locals) (hf : cells ≤ R.cells ∧ slots ≤ R.slots) (hdg : decode cc pc = .ok (.invokevirtual idx, 3))
    (kk : ∀ (H1 : Heap) (locs1 : List Loc), va_P G.1 vwCl wo H1 → va_D A wo → va_S A s.heap H1 locs1 → W p l e R s m args below meth c H1 locs1 cells slots Q (F0 m (pc + 3) ls rest)) : W p l e R s m args below meth c H locs cells slots Q (F0 m pc ls (As.reverse ++ .ref b :: rest)) :=
  have h1 := pw_in L js ks (by rw [hn0]; exact hj) hw (by rw [hJ]; exact hc1)
  have h2 := pw_out L L' js ks (by rw [hn0]; exact hj) (by rw [hn0, hn1]) (by rw [hJ']; exact hc2) (by rw [hk1, hk2]) ho
  r_bvv [] (pk L ks).flatten X K hM (vp_perm h1 hP) (vd_perm h1 hD) hS hA rfl rfl q0 he hc hnn hls hW hR hf hdg (fun H1 locs1 hP hD hS => kk H1 locs1 (vp_perm h2 hP) (vd_perm h2 hD) hS)
theorem r_psi (L L' J J' Kl : List va_W) (n0 : Nat) (js ks : List Nat) (X : CX G A own cc nL ret p s m args meth c) (K : SS own idx y c2 n2 (some rt) n) (hM : CI l G y c2 n2 rt d2 As wc r wc') (hP : va_P G.1 vwCl ws H) (hD : va_D A ws) (hS : va_S A s.heap H locs) (hA : ∀ q : Nat, s.heap.size ≤ q → A q) (hn0 : L.length = n0) (hn1 : L'.length = n0) (hj : (js ++ ks).isPerm (List.range n0) = true) (hw : ws = L.flatten) (hJ : pk L js = J) (hc1 : wc = J.flatten) (hJ' : pk L' js = J') (hc2 : wc' = J'.flatten) (hk1 : pk L ks = Kl) (hk2 : pk L' ks = Kl) (ho : L'.flatten = wo)
    (hnn : As.length = n) (hls : ls.size = nL) (hW : 2 * (F0 m pc ls (As.reverse ++ rest)).monitorRoom + (rest.map fun v => v.category).sum ≤ 8) (hR : d2 + 1 ≤ R.frames ∧ 8 + (n2 + 11) + 60 * d2 ≤ R.locals) (hf : cells ≤ R.cells ∧ slots ≤ R.slots) (hdg : decode cc pc = .ok (.invokestatic idx, 3))
    (kk : ∀ (H1 : Heap) (locs1 : List Loc), va_P G.1 vwCl wo H1 → va_D A wo → va_S A s.heap H1 locs1 → W p l e R s m args below meth c H1 locs1 cells slots Q (F0 m (pc + 3) ls (.int r :: rest))) : W p l e R s m args below meth c H locs cells slots Q (F0 m pc ls (As.reverse ++ rest)) :=
  have h1 := pw_in L js ks (by rw [hn0]; exact hj) hw (by rw [hJ]; exact hc1)
  have h2 := pw_out L L' js ks (by rw [hn0]; exact hj) (by rw [hn0, hn1]) (by rw [hJ']; exact hc2) (by rw [hk1, hk2]) ho
  r_bsi [] (pk L ks).flatten X K hM (vp_perm h1 hP) (vd_perm h1 hD) hS hA rfl rfl hnn hls hW hR hf hdg (fun H1 locs1 hP hD hS => kk H1 locs1 (vp_perm h2 hP) (vd_perm h2 hD) hS)
theorem r_psv (L L' J J' Kl : List va_W) (n0 : Nat) (js ks : List Nat) (X : CX G A own cc nL ret p s m args meth c) (K : SS own idx y c2 n2 none n) (hM : CV l G y c2 n2 d2 As wc wc') (hP : va_P G.1 vwCl ws H) (hD : va_D A ws) (hS : va_S A s.heap H locs) (hA : ∀ q : Nat, s.heap.size ≤ q → A q) (hn0 : L.length = n0) (hn1 : L'.length = n0) (hj : (js ++ ks).isPerm (List.range n0) = true) (hw : ws = L.flatten) (hJ : pk L js = J) (hc1 : wc = J.flatten) (hJ' : pk L' js = J') (hc2 : wc' = J'.flatten) (hk1 : pk L ks = Kl) (hk2 : pk L' ks = Kl) (ho : L'.flatten = wo)
    (hnn : As.length = n) (hls : ls.size = nL) (hW : 2 * (F0 m pc ls (As.reverse ++ rest)).monitorRoom + (rest.map fun v => v.category).sum ≤ 8) (hR : d2 + 1 ≤ R.frames ∧ 8 + (n2 + 11) + 60 * d2 ≤ R.locals) (hf : cells ≤ R.cells ∧ slots ≤ R.slots) (hdg : decode cc pc = .ok (.invokestatic idx, 3))
    (kk : ∀ (H1 : Heap) (locs1 : List Loc), va_P G.1 vwCl wo H1 → va_D A wo → va_S A s.heap H1 locs1 → W p l e R s m args below meth c H1 locs1 cells slots Q (F0 m (pc + 3) ls rest)) : W p l e R s m args below meth c H locs cells slots Q (F0 m pc ls (As.reverse ++ rest)) :=
  have h1 := pw_in L js ks (by rw [hn0]; exact hj) hw (by rw [hJ]; exact hc1)
  have h2 := pw_out L L' js ks (by rw [hn0]; exact hj) (by rw [hn0, hn1]) (by rw [hJ']; exact hc2) (by rw [hk1, hk2]) ho
  r_bsv [] (pk L ks).flatten X K hM (vp_perm h1 hP) (vd_perm h1 hD) hS hA rfl rfl hnn hls hW hR hf hdg (fun H1 locs1 hP hD hS => kk H1 locs1 (vp_perm h2 hP) (vd_perm h2 hD) hS)
end PW
theorem get_blk {L g R ws : va_W} {k q0 : Nat} {x : Nat × va_E} (hw : ws = L ++ (g ++ R)) (hq : L.length + k = q0) (he : g[k]? = some x) : ws[q0]? = some x := by
  subst hw; subst hq
  have hk : k < g.length := (List.getElem?_eq_some_iff.mp he).1
  rw [List.getElem?_append_right (Nat.le_add_right _ _), Nat.add_sub_cancel_left, List.getElem?_append_left hk]
  exact he
theorem set_blk {L g R ws g' wo : va_W} {k q0 : Nat} {x : Nat × va_E} (hw : ws = L ++ (g ++ R)) (hq : L.length + k = q0) (hk : k < g.length) (hg : g.set k x = g') (ho : L ++ (g' ++ R) = wo) : ws.set q0 x = wo := by
  subst hw; subst hq; subst hg; subst ho
  rw [List.set_append_right _ _ (Nat.le_add_right _ _), Nat.add_sub_cancel_left, List.set_append_left _ _ hk]
