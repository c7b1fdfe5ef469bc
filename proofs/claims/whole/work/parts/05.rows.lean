/-! what a method does, as a function: none where the machine itself would throw, or where the fuel of a loop is out -/
abbrev ix (i : Int32) : Nat := i.toNatClampNeg
def ck {α : Type} (i : Int32) (n : Nat) (k : Option α) : Option α := if i < 0 ∨ n ≤ i.toNatClampNeg then none else k
def nz {α : Type} (y : Int32) (k : Option α) : Option α := if y = 0 then none else k
def zb {α : Type} (x : Int32) (k : Option α) : Option α := if x = 0 ∨ x = 1 then k else none
def bd {α β : Type} (o : Option α) (k : α → Option β) : Option β := match o with
  | none => none
  | some a => k a
theorem ck_i {α : Type} {i : Int32} {n : Nat} {k : Option α} {v : α} (h : ck i n k = some v) : vp_in i n ∧ k = some v := by
  unfold ck at h
  split at h
  · cases h
  · exact ⟨by assumption, h⟩
theorem nz_i {α : Type} {y : Int32} {k : Option α} {v : α} (h : nz y k = some v) : ¬ y = 0 ∧ k = some v := by
  unfold nz at h
  split at h
  · cases h
  · exact ⟨by assumption, h⟩
theorem zb_i {α : Type} {x : Int32} {k : Option α} {v : α} (h : zb x k = some v) : narrow .boolean (.int x) = .int x ∧ k = some v := by
  unfold zb at h
  split at h
  · rename_i q
    exact ⟨by rcases q with rfl | rfl <;> decide, h⟩
  · cases h
theorem zb_f {α : Type} {x : Int32} {k : Option α} {v : α} (h : zb x k = some v) : (narrow .boolean (.int x) = .int x ∧ fits .boolean (.int x) = true) ∧ k = some v := by
  unfold zb at h
  split at h
  · rename_i q
    exact ⟨by rcases q with rfl | rfl <;> decide, h⟩
  · cases h
theorem bd_i {α β : Type} {o : Option α} {k : α → Option β} {v : β} (h : bd o k = some v) : ∃ a, o = some a ∧ k a = some v := by
  cases o with
  | none => cases h
  | some a => exact ⟨a, rfl, h⟩
theorem if_t {α : Type} {c : Prop} [Decidable c] {a b : Option α} {v : α} (h : (if c then a else b) = some v) (hc : c) : a = some v := by rw [if_pos hc] at h; exact h
theorem if_f {α : Type} {c : Prop} [Decidable c] {a b : Option α} {v : α} (h : (if c then a else b) = some v) (hc : ¬ c) : b = some v := by rw [if_neg hc] at h; exact h
theorem fm_of {α β : Type} {f : α → Option β} : ∀ {is : List α} {wc : List β}, is.map f = wc.map some → is.filterMap f = wc
  | [], [], _ => rfl
  | [], _ :: _, h => by cases h
  | _ :: _, [], h => by cases h
  | i :: is, w :: wc, h => by
    simp only [List.map_cons, List.cons.injEq] at h
    rw [List.filterMap_cons, h.1, fm_of h.2]
section RW
variable {p : Program} {l : Launch} {e : Env} {R : Room} {s : State} {m : MethodId} {args : Array Value} {below : List Frame} {meth : Method} {c : Code} {H H0 : Heap} {locs : List Loc} {cells slots : Nat} {Q : State → Prop}
variable {G : GT} {own : String} {cc : ByteArray} {nL : Nat} {ret : Option FieldType} {A : Nat → Prop} {ws : va_W} {pc a : Nat} {ls : Array Slot} {rest : List Value}
theorem r_iald (X : CX G A own cc nL ret p s m args meth c) (hP : va_P G.1 vwCl ws H) (q0 : Nat) {n : Nat} {f : Nat → Int32} (ha : ws[q0]? = some (a, .inl (G.2.1 1, n, .inl f))) {i : Int32} (hin : vp_in i n) (hdg : decode cc pc = .ok (.iaload, 1))
    (kk : W p l e R s m args below meth c H locs cells slots Q (F0 m (pc + 1) ls (.int (f i.toNatClampNeg) :: rest))) : W p l e R s m args below meth c H locs cells slots Q (F0 m pc ls (.int i :: .ref a :: rest)) := va_iald X.hx X.hb X.hK hP q0 1 ha rfl hin hdg kk
theorem r_lald (X : CX G A own cc nL ret p s m args meth c) (hP : va_P G.1 vwCl ws H) (q0 : Nat) {n : Nat} {f : Nat → Int64} (ha : ws[q0]? = some (a, .inl (G.2.1 2, n, .inr (.inl f)))) {i : Int32} (hin : vp_in i n) (hdg : decode cc pc = .ok (.laload, 1))
    (kk : W p l e R s m args below meth c H locs cells slots Q (F0 m (pc + 1) ls (.long (f i.toNatClampNeg) :: rest))) : W p l e R s m args below meth c H locs cells slots Q (F0 m pc ls (.int i :: .ref a :: rest)) := va_lald X.hx X.hb X.hK hP q0 2 ha rfl hin hdg kk
theorem r_bald (X : CX G A own cc nL ret p s m args meth c) (hP : va_P G.1 vwCl ws H) (q0 : Nat) {n : Nat} {f : Nat → Int32} (ha : ws[q0]? = some (a, .inl (G.2.1 0, n, .inl f))) {i : Int32} (hin : vp_in i n) (hdg : decode cc pc = .ok (.baload, 1))
    (kk : W p l e R s m args below meth c H locs cells slots Q (F0 m (pc + 1) ls (.int (f i.toNatClampNeg) :: rest))) : W p l e R s m args below meth c H locs cells slots Q (F0 m pc ls (.int i :: .ref a :: rest)) := va_bald X.hx X.hb X.hK hP q0 0 ha rfl hin hdg kk
theorem r_zald (X : CX G A own cc nL ret p s m args meth c) (hP : va_P G.1 vwCl ws H) (q0 : Nat) {n : Nat} {f : Nat → Int32} (ha : ws[q0]? = some (a, .inl (G.2.1 3, n, .inl f))) {i : Int32} (hin : vp_in i n) (hdg : decode cc pc = .ok (.baload, 1))
    (kk : W p l e R s m args below meth c H locs cells slots Q (F0 m (pc + 1) ls (.int (f i.toNatClampNeg) :: rest))) : W p l e R s m args below meth c H locs cells slots Q (F0 m pc ls (.int i :: .ref a :: rest)) := va_zald X.hx X.hb X.hK hP q0 3 ha rfl hin hdg kk
variable {wo : va_W}
theorem r_iast (X : CX G A own cc nL ret p s m args meth c) (hP : va_P G.1 vwCl ws H) (hD : va_D A ws) (hS : va_S A H0 H locs) (q0 : Nat) {n : Nat} {f : Nat → Int32} (ha : ws[q0]? = some (a, .inl (G.2.1 1, n, .inl f))) {i x : Int32} (hin : vp_in i n) (ho : ws.set q0 (a, .inl (G.2.1 1, n, .inl (upd f i.toNatClampNeg x))) = wo) (hdg : decode cc pc = .ok (.iastore, 1))
    (kk : ∀ (H1 : Heap) (locs1 : List Loc), va_P G.1 vwCl wo H1 → va_D A wo → va_S A H0 H1 locs1 → W p l e R s m args below meth c H1 locs1 cells slots Q (F0 m (pc + 1) ls rest)) : W p l e R s m args below meth c H locs cells slots Q (F0 m pc ls (.int x :: .int i :: .ref a :: rest)) := by
  subst ho; exact va_iast X.hx X.hb X.hK hP hD hS q0 1 ha rfl hin hdg kk
theorem r_last (X : CX G A own cc nL ret p s m args meth c) (hP : va_P G.1 vwCl ws H) (hD : va_D A ws) (hS : va_S A H0 H locs) (q0 : Nat) {n : Nat} {f : Nat → Int64} (ha : ws[q0]? = some (a, .inl (G.2.1 2, n, .inr (.inl f)))) {i : Int32} {x : Int64} (hin : vp_in i n) (ho : ws.set q0 (a, .inl (G.2.1 2, n, .inr (.inl (vp_updL f i.toNatClampNeg x)))) = wo) (hdg : decode cc pc = .ok (.lastore, 1))
    (kk : ∀ (H1 : Heap) (locs1 : List Loc), va_P G.1 vwCl wo H1 → va_D A wo → va_S A H0 H1 locs1 → W p l e R s m args below meth c H1 locs1 cells slots Q (F0 m (pc + 1) ls rest)) : W p l e R s m args below meth c H locs cells slots Q (F0 m pc ls (.long x :: .int i :: .ref a :: rest)) := by
  subst ho; exact va_last X.hx X.hb X.hK hP hD hS q0 2 ha rfl hin hdg kk
theorem r_bast (X : CX G A own cc nL ret p s m args meth c) (hP : va_P G.1 vwCl ws H) (hD : va_D A ws) (hS : va_S A H0 H locs) (q0 : Nat) {n : Nat} {f : Nat → Int32} (ha : ws[q0]? = some (a, .inl (G.2.1 0, n, .inl f))) {i x : Int32} (hin : vp_in i n) (ho : ws.set q0 (a, .inl (G.2.1 0, n, .inl (upd f i.toNatClampNeg (vp_nar .byte x)))) = wo) (hdg : decode cc pc = .ok (.bastore, 1))
    (kk : ∀ (H1 : Heap) (locs1 : List Loc), va_P G.1 vwCl wo H1 → va_D A wo → va_S A H0 H1 locs1 → W p l e R s m args below meth c H1 locs1 cells slots Q (F0 m (pc + 1) ls rest)) : W p l e R s m args below meth c H locs cells slots Q (F0 m pc ls (.int x :: .int i :: .ref a :: rest)) := by
  subst ho; exact va_bast X.hx X.hb X.hK hP hD hS q0 0 ha rfl hin hdg kk
theorem r_zast (X : CX G A own cc nL ret p s m args meth c) (hP : va_P G.1 vwCl ws H) (hD : va_D A ws) (hS : va_S A H0 H locs) (q0 : Nat) {n : Nat} {f : Nat → Int32} (ha : ws[q0]? = some (a, .inl (G.2.1 3, n, .inl f))) {i x : Int32} (hin : vp_in i n) (ho : ws.set q0 (a, .inl (G.2.1 3, n, .inl (upd f i.toNatClampNeg (vp_nar .boolean x)))) = wo) (hdg : decode cc pc = .ok (.bastore, 1))
    (kk : ∀ (H1 : Heap) (locs1 : List Loc), va_P G.1 vwCl wo H1 → va_D A wo → va_S A H0 H1 locs1 → W p l e R s m args below meth c H1 locs1 cells slots Q (F0 m (pc + 1) ls rest)) : W p l e R s m args below meth c H locs cells slots Q (F0 m pc ls (.int x :: .int i :: .ref a :: rest)) := by
  subst ho; exact va_zast X.hx X.hb X.hK hP hD hS q0 3 ha rfl hin hdg kk
variable {idx : Nat} {y : MethodName} {c2 : ByteArray} {n2 n d2 : Nat} {rt : FieldType} {As : List Value} {b : Nat} {wc wc' : va_W} {r : Int32}
/-- a call of an instance's method, answering an int; a void one -/
theorem r_cvi (X : CX G A own cc nL ret p s m args meth c) (K : SV own idx y c2 n2 (some rt) n) (hM : CI l G y c2 n2 rt d2 (.ref b :: As) wc r wc') (hP : va_P G.1 vwCl ws H) (hD : va_D A ws) (hS : va_S A s.heap H locs) (hA : ∀ q : Nat, s.heap.size ≤ q → A q)
    (q0 : Nat) {ci : Nat} {fs : List Value} {T : u_T} {N : Nat} (he : ws[q0]? = some (b, .inr (ci, fs))) (hc : vwCl[ci]? = some (y.cls, T, N)) (is : List Nat) (hC : is.map (fun i => ws[i]?) = wc.map some) (hn : va_nd is = true) (hl : wc'.length = wc.length) (ho : va_rp ws is wc' = wo)
    (hnn : As.length = n) (hls : ls.size = nL) (hW : 2 * (F0 m pc ls (As.reverse ++ .ref b :: rest)).monitorRoom + (rest.map fun v => v.category).sum ≤ 8) (hR : d2 + 1 ≤ R.frames ∧ 8 + (n2 + 11) + 60 * d2 ≤ R.locals) (hf : cells ≤ R.cells ∧ slots ≤ R.slots) (hdg : decode cc pc = .ok (.invokevirtual idx, 3))
    (kk : ∀ (H1 : Heap) (locs1 : List Loc), va_P G.1 vwCl wo H1 → va_D A wo → va_S A s.heap H1 locs1 → W p l e R s m args below meth c H1 locs1 cells slots Q (F0 m (pc + 3) ls (.int r :: rest))) : W p l e R s m args below meth c H locs cells slots Q (F0 m pc ls (As.reverse ++ .ref b :: rest)) :=
  r_afi (As := rest) (va_runV (As := As) (rest := rest) X.fix (hM H.size) ⟨SB.cb X K.1 hR, X.hts _ K.2.1, X.hts _ K.2.2⟩ (preV_of X hP q0 he hc (hP.sub is (fm_of hC)) (hD.sub is hn hC) hS (va_free hD hS hA is hC)) rfl hnn hls rfl hW hdg hf) hP hD hS hA is hC hn hl ho kk
theorem r_cvv (X : CX G A own cc nL ret p s m args meth c) (K : SV own idx y c2 n2 none n) (hM : CV l G y c2 n2 d2 (.ref b :: As) wc wc') (hP : va_P G.1 vwCl ws H) (hD : va_D A ws) (hS : va_S A s.heap H locs) (hA : ∀ q : Nat, s.heap.size ≤ q → A q)
    (q0 : Nat) {ci : Nat} {fs : List Value} {T : u_T} {N : Nat} (he : ws[q0]? = some (b, .inr (ci, fs))) (hc : vwCl[ci]? = some (y.cls, T, N)) (is : List Nat) (hC : is.map (fun i => ws[i]?) = wc.map some) (hn : va_nd is = true) (hl : wc'.length = wc.length) (ho : va_rp ws is wc' = wo)
    (hnn : As.length = n) (hls : ls.size = nL) (hW : 2 * (F0 m pc ls (As.reverse ++ .ref b :: rest)).monitorRoom + (rest.map fun v => v.category).sum ≤ 8) (hR : d2 + 1 ≤ R.frames ∧ 8 + (n2 + 11) + 60 * d2 ≤ R.locals) (hf : cells ≤ R.cells ∧ slots ≤ R.slots) (hdg : decode cc pc = .ok (.invokevirtual idx, 3))
    (kk : ∀ (H1 : Heap) (locs1 : List Loc), va_P G.1 vwCl wo H1 → va_D A wo → va_S A s.heap H1 locs1 → W p l e R s m args below meth c H1 locs1 cells slots Q (F0 m (pc + 3) ls rest)) : W p l e R s m args below meth c H locs cells slots Q (F0 m pc ls (As.reverse ++ .ref b :: rest)) :=
  r_afv (As := rest) (va_runV (As := As) (rest := rest) X.fix (hM H.size) ⟨SB.cb X K.1 hR, X.hts _ K.2.1, X.hts _ K.2.2⟩ (preV_of X hP q0 he hc (hP.sub is (fm_of hC)) (hD.sub is hn hC) hS (va_free hD hS hA is hC)) rfl hnn hls rfl hW hdg hf) hP hD hS hA is hC hn hl ho kk
theorem r_csi (X : CX G A own cc nL ret p s m args meth c) (K : SS own idx y c2 n2 (some rt) n) (hM : CI l G y c2 n2 rt d2 As wc r wc') (hP : va_P G.1 vwCl ws H) (hD : va_D A ws) (hS : va_S A s.heap H locs) (hA : ∀ q : Nat, s.heap.size ≤ q → A q)
    (is : List Nat) (hC : is.map (fun i => ws[i]?) = wc.map some) (hn : va_nd is = true) (hl : wc'.length = wc.length) (ho : va_rp ws is wc' = wo)
    (hnn : As.length = n) (hls : ls.size = nL) (hW : 2 * (F0 m pc ls (As.reverse ++ rest)).monitorRoom + (rest.map fun v => v.category).sum ≤ 8) (hR : d2 + 1 ≤ R.frames ∧ 8 + (n2 + 11) + 60 * d2 ≤ R.locals) (hf : cells ≤ R.cells ∧ slots ≤ R.slots) (hdg : decode cc pc = .ok (.invokestatic idx, 3))
    (kk : ∀ (H1 : Heap) (locs1 : List Loc), va_P G.1 vwCl wo H1 → va_D A wo → va_S A s.heap H1 locs1 → W p l e R s m args below meth c H1 locs1 cells slots Q (F0 m (pc + 3) ls (.int r :: rest))) : W p l e R s m args below meth c H locs cells slots Q (F0 m pc ls (As.reverse ++ rest)) :=
  r_afi (As := rest) (va_runS (As := As) (rest := rest) X.fix (hM H.size) ⟨SB.cb X K.1 hR, X.hts _ K.2⟩ (preS_of X (hP.sub is (fm_of hC)) (hD.sub is hn hC) hS (va_free hD hS hA is hC)) rfl hnn hls rfl hW hdg hf) hP hD hS hA is hC hn hl ho kk
theorem r_csv (X : CX G A own cc nL ret p s m args meth c) (K : SS own idx y c2 n2 none n) (hM : CV l G y c2 n2 d2 As wc wc') (hP : va_P G.1 vwCl ws H) (hD : va_D A ws) (hS : va_S A s.heap H locs) (hA : ∀ q : Nat, s.heap.size ≤ q → A q)
    (is : List Nat) (hC : is.map (fun i => ws[i]?) = wc.map some) (hn : va_nd is = true) (hl : wc'.length = wc.length) (ho : va_rp ws is wc' = wo)
    (hnn : As.length = n) (hls : ls.size = nL) (hW : 2 * (F0 m pc ls (As.reverse ++ rest)).monitorRoom + (rest.map fun v => v.category).sum ≤ 8) (hR : d2 + 1 ≤ R.frames ∧ 8 + (n2 + 11) + 60 * d2 ≤ R.locals) (hf : cells ≤ R.cells ∧ slots ≤ R.slots) (hdg : decode cc pc = .ok (.invokestatic idx, 3))
    (kk : ∀ (H1 : Heap) (locs1 : List Loc), va_P G.1 vwCl wo H1 → va_D A wo → va_S A s.heap H1 locs1 → W p l e R s m args below meth c H1 locs1 cells slots Q (F0 m (pc + 3) ls rest)) : W p l e R s m args below meth c H locs cells slots Q (F0 m pc ls (As.reverse ++ rest)) :=
  r_afv (As := rest) (va_runS (As := As) (rest := rest) X.fix (hM H.size) ⟨SB.cb X K.1 hR, X.hts _ K.2⟩ (preS_of X (hP.sub is (fm_of hC)) (hD.sub is hn hC) hS (va_free hD hS hA is hC)) rfl hnn hls rfl hW hdg hf) hP hD hS hA is hC hn hl ho kk
/-- a static method that needs no world: the caller's stays -/
theorem r_cs0 (X : CX G A own cc nL ret p s m args meth c) (K : SS own idx y c2 n2 (some rt) n) (hM : CI l G y c2 n2 rt d2 As [] r []) (hP : va_P G.1 vwCl ws H) (hD : va_D A ws) (hS : va_S A s.heap H locs) (hA : ∀ q : Nat, s.heap.size ≤ q → A q)
    (hnn : As.length = n) (hls : ls.size = nL) (hW : 2 * (F0 m pc ls (As.reverse ++ rest)).monitorRoom + (rest.map fun v => v.category).sum ≤ 8) (hR : d2 + 1 ≤ R.frames ∧ 8 + (n2 + 11) + 60 * d2 ≤ R.locals) (hf : cells ≤ R.cells ∧ slots ≤ R.slots) (hdg : decode cc pc = .ok (.invokestatic idx, 3))
    (kk : ∀ (H1 : Heap) (locs1 : List Loc), va_P G.1 vwCl ws H1 → va_D A ws → va_S A s.heap H1 locs1 → W p l e R s m args below meth c H1 locs1 cells slots Q (F0 m (pc + 3) ls (.int r :: rest))) : W p l e R s m args below meth c H locs cells slots Q (F0 m pc ls (As.reverse ++ rest)) :=
  r_csi X K hM hP hD hS hA [] rfl rfl rfl (by cases ws <;> rfl) hnn hls hW hR hf hdg kk
theorem r_cn0 (X : CX G A own cc nL ret p s m args meth c) (K : SNS own idx y c2 n2 (some rt) n) (hM : CI l G y c2 n2 rt d2 As [] r []) (hP : va_P G.1 vwCl ws H) (hD : va_D A ws) (hS : va_S A s.heap H locs) (hA : ∀ q : Nat, s.heap.size ≤ q → A q)
    (hnn : As.length = n) (hls : ls.size = nL) (hW : 2 * (F0 m pc ls (As.reverse ++ rest)).monitorRoom + (rest.map fun v => v.category).sum ≤ 8) (hR : d2 + 1 ≤ R.frames ∧ 8 + (n2 + 11) + 60 * d2 ≤ R.locals) (hf : cells ≤ R.cells ∧ slots ≤ R.slots) (hdg : decode cc pc = .ok (.invokestatic idx, 3))
    (kk : ∀ (H1 : Heap) (locs1 : List Loc), va_P G.1 vwCl ws H1 → va_D A ws → va_S A s.heap H1 locs1 → W p l e R s m args below meth c H1 locs1 cells slots Q (F0 m (pc + 3) ls (.int r :: rest))) : W p l e R s m args below meth c H locs cells slots Q (F0 m pc ls (As.reverse ++ rest)) :=
  r_afi (As := rest) (va_runSN (As := As) (rest := rest) X.fix (hM H.size) ⟨SN.cb X K.1 hR, X.hts _ K.2, trivial⟩ (preS_of X (hP.sub (ws' := []) [] rfl) (hD.sub (ws' := []) [] rfl rfl) hS (va_free (wc := []) hD hS hA [] rfl)) rfl hnn hls rfl hW hdg hf) hP hD hS hA [] rfl rfl rfl (by cases ws <;> rfl) kk
end RW
