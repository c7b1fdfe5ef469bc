abbrev RMA (d mc ms : Nat) : Room := { frames := d, cells := mc, slots := ms, locals := 60 * d }
/-- a constructor: from the world ws (its own object bare) to W' u at new addresses u -/
def CN (l : Launch) (G : GT) (y : MethodName) (cc : ByteArray) (nL d mc ms : Nat) (av : List Value) (ws : va_W) (a : Nat) (W' : (Nat → Nat → Nat) → va_W) : Prop :=
  ∀ sz, Met l y (Cond.code y cc nL none :: TT) (RMA d mc ms) (va_Pc av (PX G ws sz)) (va_Qv (fun (u : Nat → Nat → Nat) => u 0 0 = a) (fun u t => va_P G.1 vwCl (W' u) t.heap ∧ va_D (va_A ws sz) (W' u)) (va_A ws sz)) mc ms (va_A ws sz)
def QN (G : GT) (A : Nat → Prop) (a : Nat) (W' : (Nat → Nat → Nat) → va_W) : Array Value → State → Outcome → State → Prop := va_Qv (fun (u : Nat → Nat → Nat) => u 0 0 = a) (fun u t => va_P G.1 vwCl (W' u) t.heap ∧ va_D A (W' u)) A
section CT
variable {p : Program} {l : Launch} {e : Env} {R : Room} {s : State} {m : MethodId} {args : Array Value} {below : List Frame} {meth : Method} {c : Code} {H : Heap} {locs : List Loc} {cells slots : Nat} {Q : State → Prop}
variable {G : GT} {own : String} {cc : ByteArray} {nL : Nat} {ret : Option FieldType} {A : Nat → Prop} {ws wo : va_W} {pc a : Nat} {ls : Array Slot} {rest : List Value} {idx : Nat}
theorem CN.of {y : MethodName} {d mc ms : Nat} {av : List Value} {W' : (Nat → Nat → Nat) → va_W} (hy : plainName y.cls = true) (hy1 : y.name = "<init>") (hlen : (lg_sl av).length ≤ nL)
    (body : ∀ (p : Program) (e : Env) (s : State) (m : MethodId) (args : Array Value) (below : List Frame) (meth : Method) (c : Code) (A : Nat → Prop), CX G A y.cls cc nL none p s m args meth c → meth.name = "<init>" → (∀ q : Nat, s.heap.size ≤ q → A q) →
      va_P G.1 vwCl ws s.heap → va_D A ws → va_S A s.heap s.heap [] → ∀ ls, lv_has ls nL (lv_args 0 av) → W p l e (RMA d mc ms) s m args below meth c s.heap [] 0 0 (MQ below (QN G A a W') args s mc ms A) (F0 m 0 ls [])) :
    CN l G y cc nL d mc ms av ws a W' := by
  intro sz
  refine Met.ofW (cc := cc) (maxL := nL) (ret := none) hy rfl ?_
  intro p e s m args below meth c s₁ B hml hv
  obtain ⟨rfl, hsz, hP, hK, hD0, hSX⟩ := hv
  have hts := atoms_spec (ws := Cond.code y cc nL none :: TT) B.pre
  subst hsz
  have hD := hD0.self (sz := s.heap.size)
  have hl := lv_entry av (n := nL) hlen
  have hin : meth.name = "<init>" := hy1 ▸ (name_of_methodNamed B.named B.method).1
  rw [lg_entry_eq]
  generalize hAe : va_A ws s.heap.size = A at hD hSX ⊢
  exact body p e s m _ below meth c A ⟨B.exec, B.bytes, hml, findClass_of_methodNamed B.named, fun w h => hts w (List.mem_cons_of_mem _ h), hK, B.returns, B.notSynchronized, hSX⟩ hin (fun q h => by rw [← hAe]; exact Or.inr h) hP hD va_S.rf _ hl
theorem r_nret {W' : (Nat → Nat → Nat) → va_W} (X : CX G A own cc nL none p s m args meth c) (u : Nat → Nat → Nat) (hu : u 0 0 = a) (hP : va_P G.1 vwCl (W' u) H) (hD : va_D A (W' u)) (hS : va_S A s.heap H locs) (hdg : decode cc pc = .ok (.return_, 1)) : W p l e R s m args below meth c H locs cells slots (MQ below (QN G A a W') args s cells slots A) (F0 m pc ls []) :=
  W.vret X.hx X.hb X.hr (fun t ht hW => ⟨⟨u, rfl, hu, by rw [ht]; exact hP, hD⟩, hS.F ht⟩) hS.2.2 hdg X.hlk
theorem r_objInit (X : CX G A own cc nL ret p s m args meth c) (hk : Cond.methodLink own idx objectInit ∈ TT) (hls : ls.size = nL) (h1 : 1 ≤ R.frames) (h2 : (rest.map fun v => v.category).sum + 12 ≤ R.locals) (hdg : decode cc pc = .ok (.invokespecial idx, 3)) (kk : W p l e R s m args below meth c H locs cells slots Q (F0 m (pc + 3) ls rest)) : W p l e R s m args below meth c H locs cells slots Q (F0 m pc ls (.ref a :: rest)) :=
  W.objInit X.hx X.hb X.hown (X.hts _ hk) (X.hts _ tw_31) (X.hts _ tw_32) rfl (by rw [X.hml]; exact hls) rfl hdg h1 (by show 2 * (F0 m pc ls (.ref a :: rest)).monitorRoom + _ + 12 ≤ _; simpa [JFrame.monitorRoom] using h2) kk
theorem ra_uq {k : Nat} {ty : FieldType} {cA : ClassId} (X : CX G A own cc nL ret p s m args meth c) (hk : (TY G)[k]? = some (G.2.1 k, ty)) (hne : ∀ C, ty ≠ .object C) (h : va_RA s cA ty) : cA = G.2.1 k := by
  have h2 := (X.hK.2 k _ hk).2
  cases ty with
  | object C => exact absurd rfl (hne C)
  | _ => exact Option.some.inj (h.symm.trans h2)
theorem r_newi (X : CX G A own cc nL ret p s m args meth c) (hP : va_P G.1 vwCl ws H) (hD : va_D A ws) (hS : va_S A s.heap H locs) (hA : ∀ q : Nat, s.heap.size ≤ q → A q) {n : Int32} (N' : Nat) (hn : ¬ n < 0) (hN : n.toNatClampNeg = N') (hby : N' * componentBytes .int ≤ 536870912) (hce : cells + 1 ≤ R.cells) (hsl : slots + N' ≤ R.slots) (hdg : decode cc pc = .ok (.newarray .int, 2))
    (kk : ∀ (q : Nat) (H1 : Heap), va_P G.1 vwCl (ws ++ [(q, .inl (G.2.1 1, N', .inl (fun _ => 0)))]) H1 → va_D A (ws ++ [(q, .inl (G.2.1 1, N', .inl (fun _ => 0)))]) → va_S A s.heap H1 locs → W p l e R s m args below meth c H1 locs (cells + 1) (slots + N') Q (F0 m (pc + 2) ls (.ref q :: rest))) : W p l e R s m args below meth c H locs cells slots Q (F0 m pc ls (.int n :: rest)) := by
  refine va_newa (atype := .int) (a0 := (N', .inl (fun _ => 0))) X.hx X.hb (X.hts _ tw_143) (ty := .int) rfl X.hK hP hD hS hA (fun _ => rfl) hn hN hby hce hsl hdg (fun q cA H1 hK hP hD hS => ?_)
  have e : cA = G.2.1 1 := ra_uq X (k := 1) rfl (fun C h => by cases h) (hK.2 5 _ rfl).2
  subst e
  exact kk q H1 hP hD hS
theorem r_newb (X : CX G A own cc nL ret p s m args meth c) (hP : va_P G.1 vwCl ws H) (hD : va_D A ws) (hS : va_S A s.heap H locs) (hA : ∀ q : Nat, s.heap.size ≤ q → A q) {n : Int32} (N' : Nat) (hn : ¬ n < 0) (hN : n.toNatClampNeg = N') (hby : N' * componentBytes .byte ≤ 536870912) (hce : cells + 1 ≤ R.cells) (hsl : slots + N' ≤ R.slots) (hdg : decode cc pc = .ok (.newarray .byte, 2))
    (kk : ∀ (q : Nat) (H1 : Heap), va_P G.1 vwCl (ws ++ [(q, .inl (G.2.1 0, N', .inl (fun _ => 0)))]) H1 → va_D A (ws ++ [(q, .inl (G.2.1 0, N', .inl (fun _ => 0)))]) → va_S A s.heap H1 locs → W p l e R s m args below meth c H1 locs (cells + 1) (slots + N') Q (F0 m (pc + 2) ls (.ref q :: rest))) : W p l e R s m args below meth c H locs cells slots Q (F0 m pc ls (.int n :: rest)) := by
  refine va_newa (atype := .byte) (a0 := (N', .inl (fun _ => 0))) X.hx X.hb (X.hts _ tw_145) (ty := .byte) rfl X.hK hP hD hS hA (fun _ => rfl) hn hN hby hce hsl hdg (fun q cA H1 hK hP hD hS => ?_)
  have e : cA = G.2.1 0 := ra_uq X (k := 0) rfl (fun C h => by cases h) (hK.2 5 _ rfl).2
  subst e
  exact kk q H1 hP hD hS
theorem r_newz (X : CX G A own cc nL ret p s m args meth c) (hP : va_P G.1 vwCl ws H) (hD : va_D A ws) (hS : va_S A s.heap H locs) (hA : ∀ q : Nat, s.heap.size ≤ q → A q) {n : Int32} (N' : Nat) (hn : ¬ n < 0) (hN : n.toNatClampNeg = N') (hby : N' * componentBytes .boolean ≤ 536870912) (hce : cells + 1 ≤ R.cells) (hsl : slots + N' ≤ R.slots) (hdg : decode cc pc = .ok (.newarray .boolean, 2))
    (kk : ∀ (q : Nat) (H1 : Heap), va_P G.1 vwCl (ws ++ [(q, .inl (G.2.1 3, N', .inl (fun _ => 0)))]) H1 → va_D A (ws ++ [(q, .inl (G.2.1 3, N', .inl (fun _ => 0)))]) → va_S A s.heap H1 locs → W p l e R s m args below meth c H1 locs (cells + 1) (slots + N') Q (F0 m (pc + 2) ls (.ref q :: rest))) : W p l e R s m args below meth c H locs cells slots Q (F0 m pc ls (.int n :: rest)) := by
  refine va_newa (atype := .boolean) (a0 := (N', .inl (fun _ => 0))) X.hx X.hb (X.hts _ tw_1479) (ty := .boolean) rfl X.hK hP hD hS hA (fun _ => rfl) hn hN hby hce hsl hdg (fun q cA H1 hK hP hD hS => ?_)
  have e : cA = G.2.1 3 := ra_uq X (k := 3) rfl (fun C h => by cases h) (hK.2 5 _ rfl).2
  subst e
  exact kk q H1 hP hD hS
theorem r_newl (X : CX G A own cc nL ret p s m args meth c) (hP : va_P G.1 vwCl ws H) (hD : va_D A ws) (hS : va_S A s.heap H locs) (hA : ∀ q : Nat, s.heap.size ≤ q → A q) {n : Int32} (N' : Nat) (hn : ¬ n < 0) (hN : n.toNatClampNeg = N') (hby : N' * componentBytes .long ≤ 536870912) (hce : cells + 1 ≤ R.cells) (hsl : slots + N' ≤ R.slots) (hdg : decode cc pc = .ok (.newarray .long, 2))
    (kk : ∀ (q : Nat) (H1 : Heap), va_P G.1 vwCl (ws ++ [(q, .inl (G.2.1 2, N', .inr (.inl (fun _ => 0))))]) H1 → va_D A (ws ++ [(q, .inl (G.2.1 2, N', .inr (.inl (fun _ => 0))))]) → va_S A s.heap H1 locs → W p l e R s m args below meth c H1 locs (cells + 1) (slots + N') Q (F0 m (pc + 2) ls (.ref q :: rest))) : W p l e R s m args below meth c H locs cells slots Q (F0 m pc ls (.int n :: rest)) := by
  refine va_newa (atype := .long) (a0 := (N', .inr (.inl (fun _ => 0)))) X.hx X.hb (X.hts _ tw_144) (ty := .long) rfl X.hK hP hD hS hA (fun _ => rfl) hn hN hby hce hsl hdg (fun q cA H1 hK hP hD hS => ?_)
  have e : cA = G.2.1 2 := ra_uq X (k := 2) rfl (fun C h => by cases h) (hK.2 5 _ rfl).2
  subst e
  exact kk q H1 hP hD hS
theorem r_newq (X : CX G A own cc nL ret p s m args meth c) (hk : Cond.classLink own idx RX4 ∈ TT) (hP : va_P G.1 vwCl ws H) (hD : va_D A ws) (hS : va_S A s.heap H locs) (hA : ∀ q : Nat, s.heap.size ≤ q → A q) {n : Int32} (N' : Nat) (hn : ¬ n < 0) (hN : n.toNatClampNeg = N') (hby : N' * 4 ≤ 536870912) (hce : cells + 1 ≤ R.cells) (hsl : slots + N' ≤ R.slots) (hdg : decode cc pc = .ok (.anewarray idx, 3))
    (kk : ∀ (q : Nat) (H1 : Heap), va_P G.1 vwCl (ws ++ [(q, .inl (G.2.1 4, N', .inr (.inr (.inr (.inr (fun _ => none))))))]) H1 → va_D A (ws ++ [(q, .inl (G.2.1 4, N', .inr (.inr (.inr (.inr (fun _ => none))))))]) → va_S A s.heap H1 locs → W p l e R s m args below meth c H1 locs (cells + 1) (slots + N') Q (F0 m (pc + 3) ls (.ref q :: rest))) : W p l e R s m args below meth c H locs cells slots Q (F0 m pc ls (.int n :: rest)) := by
  refine va_newq X.hx X.hb X.hown (X.hts _ hk) X.hAO X.hK hP hD hS hA hn hN hby hce hsl hdg (fun q cA H1 hK hP hD hS => ?_)
  have e : cA = G.2.1 4 := by
    obtain ⟨k1, c1, -, -, -, h1⟩ := (hK.2 5 _ rfl).2
    obtain ⟨k2, c2, -, -, -, h2⟩ := (X.hK.2 4 _ rfl).2
    exact Option.some.inj (h1.symm.trans h2)
  subst e
  exact kk q H1 hP hD hS
end CT
