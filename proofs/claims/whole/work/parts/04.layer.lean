abbrev GT : Type := va_G × (Nat → ClassId) × (Nat → Nat) × (Nat → Nat)
abbrev TY (G : GT) : List (ClassId × FieldType) := [(G.2.1 0, .byte), (G.2.1 1, .int), (G.2.1 2, .long), (G.2.1 3, .boolean), (G.2.1 4, .object RX4)]
def KX (G : GT) (U : State) : Prop := va_K G.1 vwCl (TY G) U ∧ NS U ∧ va_AO RX4 U
theorem KX.warm {G : GT} {s U : State} (hW : s.WarmedH U.vm) (h : KX G s) : KX G U := ⟨va_K.moved hW.alike h.1, NS.warm hW h.2.1, va_AO.moved hW.alike h.2.2⟩
/-- the text constants, and how they are kept: cells that no method here changes -/
def lenS : List Nat := [132, 6, 7, 7, 5]
def bytS : List (List Int32) := [[112, 101, 114, 115, 111, 110, 32, 103, 111, 111, 100, 32, 115, 101, 108, 108, 115, 32, 119, 97, 110, 116, 115, 32, 107, 110, 111, 119, 115, 32, 102, 111, 101, 115, 32, 100, 101, 97, 108, 115, 32, 118, 101, 105, 108, 115, 32, 98, 101, 108, 108, 32, 98, 117, 121, 115, 32, 110, 111, 100, 115, 32, 116, 101, 108, 108, 115, 32, 100, 97, 121, 32, 111, 114, 32, 97, 110, 100, 32, 110, 111, 116, 32, 104, 111, 109, 101, 32, 118, 101, 105, 108, 101, 100, 32, 102, 101, 100, 32, 115, 111, 108, 100, 32, 99, 111, 105, 110, 115, 32, 102, 114, 105, 101, 110, 100, 115, 32, 104, 117, 110, 103, 101, 114, 32, 110, 117, 109, 98, 101, 114, 32], [32, 107, 110, 111, 119, 115], [32, 110, 111, 98, 111, 100, 121], [32, 118, 101, 105, 108, 101, 100], [32, 104, 111, 109, 101]]
def RS (G : GT) (U : State) : Prop := vk_R RX8 19 "person good sells wants knows foes deals veils bell buys nods tells day or and not home veiled fed sold coins friends hunger number " (G.2.2.1 0) U ∧ vk_R RX5 29 " knows" (G.2.2.1 1) U ∧ vk_R RX5 52 " nobody" (G.2.2.1 2) U ∧ vk_R RX5 57 " veiled" (G.2.2.1 3) U ∧ vk_R RX5 62 " home" (G.2.2.1 4) U
def SX (G : GT) (A : Nat → Prop) (U : State) (H : Heap) : Prop := vk_S 5 lenS bytS G.2.2.1 G.2.2.2 A U H ∧ va_Z "java/lang/String" "COMPACT_STRINGS" "Z" (.int 1) A U H ∧ va_Zq "jdk/internal/util/Preconditions" "SIOOBE_FORMATTER" "Ljava/util/function/BiFunction;" A U H ∧ RS G U
theorem RS.warm {G : GT} {s U : State} (hW : s.WarmedH U.vm) (h : RS G s) : RS G U := ⟨vk_R.warm hW h.1, vk_R.warm hW h.2.1, vk_R.warm hW h.2.2.1, vk_R.warm hW h.2.2.2.1, vk_R.warm hW h.2.2.2.2⟩
theorem RS.same {G : GT} {u U : State} (hv : U.vm = u.vm) (h : RS G u) : RS G U := ⟨vk_R.same hv h.1, vk_R.same hv h.2.1, vk_R.same hv h.2.2.1, vk_R.same hv h.2.2.2.1, vk_R.same hv h.2.2.2.2⟩
theorem SX.go {G : GT} {A B : Nat → Prop} {s U : State} {H : Heap} {locs : List Loc} (h : SX G A s s.heap) (hS : va_S A s.heap H locs) (hB : ∀ q, B q → A q) (hU : U.heap = H) (hW : s.WarmedH U.vm) : SX G B U U.heap := by
  rw [hU]
  exact ⟨vk_S.moved hW.alike (vk_S.narrow (vk_S.kept h.1 hS.2.1) hB), va_Z.moved hW.alike (va_Z.narrow (va_Z.kept h.2.1 hS.2.1) hB), va_Zq.moved hW.alike (va_Zq.narrow (va_Zq.kept h.2.2.1 hS.2.1) hB), RS.warm hW h.2.2.2⟩
theorem SX.same {G : GT} {A : Nat → Prop} {u U : State} {H : Heap} (hv : U.vm = u.vm) (h : SX G A u H) : SX G A U H := by
  have ha : u.vm.Alike U.vm := by rw [hv]; exact Vm.Alike.refl _
  exact ⟨vk_S.moved ha h.1, va_Z.moved ha h.2.1, va_Zq.moved ha h.2.2.1, RS.same hv h.2.2.2⟩
def PX (G : GT) (ws : va_W) (sz : Nat) (U : State) : Prop := U.heap.size = sz ∧ va_P G.1 vwCl ws U.heap ∧ KX G U ∧ va_D (fun _ => True) ws ∧ SX G (va_A ws sz) U U.heap
theorem PX.blind {G : GT} {av : List Value} {ws : va_W} {sz : Nat} : FrameBlind (va_Pc av (PX G ws sz)) := by
  intro a U g mk q
  obtain ⟨q0, q1, qP, qK, qD, qS⟩ := q
  exact ⟨q0, q1, qP, ⟨va_K.moved (u := U) (U := U.calling g mk a) (Vm.Alike.refl U.vm) qK.1, NS.same (u := U) (U := U.calling g mk a) rfl qK.2.1, va_AO.moved (u := U) (U := U.calling g mk a) (Vm.Alike.refl U.vm) qK.2.2⟩, qD, SX.same (u := U) (U := U.calling g mk a) rfl qS⟩
abbrev RM (d : Nat) : Room := { frames := d, cells := 0, slots := 0, locals := 60 * d }
def QI (G : GT) (A : Nat → Prop) (r : Int32) (ws' : va_W) : Array Value → State → Outcome → State → Prop := va_Qi (fun (r' : Int32) (_ : Unit) => r' = r) (fun _ t => va_P G.1 vwCl ws' t.heap ∧ va_D A ws') A
def QV (G : GT) (A : Nat → Prop) (ws' : va_W) : Array Value → State → Outcome → State → Prop := va_Qv (fun (_ : Unit) => True) (fun _ t => va_P G.1 vwCl ws' t.heap ∧ va_D A ws') A
/-- a method that answers r and turns the world ws into ws' -/
def CI (l : Launch) (G : GT) (y : MethodName) (cc : ByteArray) (nL : Nat) (ret : FieldType) (d : Nat) (av : List Value) (ws : va_W) (r : Int32) (ws' : va_W) : Prop :=
  ∀ sz, Met l y (Cond.code y cc nL (some ret) :: TT) (RM d) (va_Pc av (PX G ws sz)) (QI G (va_A ws sz) r ws') 0 0 (va_A ws sz)
def CV (l : Launch) (G : GT) (y : MethodName) (cc : ByteArray) (nL : Nat) (d : Nat) (av : List Value) (ws : va_W) (ws' : va_W) : Prop :=
  ∀ sz, Met l y (Cond.code y cc nL none :: TT) (RM d) (va_Pc av (PX G ws sz)) (QV G (va_A ws sz) ws') 0 0 (va_A ws sz)
/-- what stays in a method's walk -/
def CX (G : GT) (A : Nat → Prop) (own : String) (cc : ByteArray) (nL : Nat) (ret : Option FieldType) (p : Program) (s : State) (m : MethodId) (args : Array Value) (meth : Method) (c : Code) : Prop :=
  p.tables.exec = Jvm.exec ∧ c.code = cc ∧ c.maxLocals = nL ∧ s.vm.findClass own = some m.cls ∧ (∀ w ∈ TT, w.before args s = true) ∧ KX G s ∧ meth.sig.returnType = ret ∧ meth.locks = false ∧ SX G A s s.heap
section LY
variable {p : Program} {l : Launch} {e : Env} {R : Room} {s : State} {m : MethodId} {args : Array Value} {below : List Frame} {meth : Method} {c : Code} {H H0 : Heap} {locs : List Loc} {cells slots : Nat} {Q : State → Prop}
variable {G : GT} {own : String} {cc : ByteArray} {nL : Nat} {ret : Option FieldType} {A : Nat → Prop} {ws : va_W} {pc a : Nat} {ls : Array Slot} {rest : List Value}
theorem CX.hx (X : CX G A own cc nL ret p s m args meth c) : p.tables.exec = Jvm.exec := X.1
theorem CX.hb (X : CX G A own cc nL ret p s m args meth c) : c.code = cc := X.2.1
theorem CX.hml (X : CX G A own cc nL ret p s m args meth c) : c.maxLocals = nL := X.2.2.1
theorem CX.hown (X : CX G A own cc nL ret p s m args meth c) : s.vm.findClass own = some m.cls := X.2.2.2.1
theorem CX.hts (X : CX G A own cc nL ret p s m args meth c) : ∀ w ∈ TT, w.before args s = true := X.2.2.2.2.1
theorem CX.hK (X : CX G A own cc nL ret p s m args meth c) : va_K G.1 vwCl (TY G) s := X.2.2.2.2.2.1.1
theorem CX.hKX (X : CX G A own cc nL ret p s m args meth c) : KX G s := X.2.2.2.2.2.1
theorem CX.hN (X : CX G A own cc nL ret p s m args meth c) : NS s := X.2.2.2.2.2.1.2.1
theorem CX.hAO (X : CX G A own cc nL ret p s m args meth c) : va_AO RX4 s := X.2.2.2.2.2.1.2.2
theorem CX.hr (X : CX G A own cc nL ret p s m args meth c) : meth.sig.returnType = ret := X.2.2.2.2.2.2.1
theorem CX.hlk (X : CX G A own cc nL ret p s m args meth c) : meth.locks = false := X.2.2.2.2.2.2.2.1
theorem CX.hSX (X : CX G A own cc nL ret p s m args meth c) : SX G A s s.heap := X.2.2.2.2.2.2.2.2
theorem CX.fix (X : CX G A own cc nL ret p s m args meth c) : CallFix p m c cc nL s args TT own := ⟨X.hx, X.hb, X.hml, X.hown, X.hts⟩

theorem CI.of {y : MethodName} {rt : FieldType} {d : Nat} {av : List Value} {r : Int32} {ws' : va_W} (hy : plainName y.cls = true) (hlen : (lg_sl av).length ≤ nL)
    (body : ∀ (p : Program) (e : Env) (s : State) (m : MethodId) (args : Array Value) (below : List Frame) (meth : Method) (c : Code) (A : Nat → Prop), CX G A y.cls cc nL (some rt) p s m args meth c → (∀ q : Nat, s.heap.size ≤ q → A q) →
      va_P G.1 vwCl ws s.heap → va_D A ws → va_S A s.heap s.heap [] → ∀ ls, lv_has ls nL (lv_args 0 av) → W p l e (RM d) s m args below meth c s.heap [] 0 0 (MQ below (QI G A r ws') args s 0 0 A) (F0 m 0 ls [])) :
    CI l G y cc nL rt d av ws r ws' := by
  intro sz
  refine Met.ofW (cc := cc) (maxL := nL) (ret := some rt) hy rfl ?_
  intro p e s m args below meth c s₁ B hml hv
  obtain ⟨rfl, hsz, hP, hK, hD0, hSX⟩ := hv
  have hts := atoms_spec (ws := Cond.code y cc nL (some rt) :: TT) B.pre
  subst hsz
  have hD := hD0.self (sz := s.heap.size)
  have hl := lv_entry av (n := nL) hlen
  rw [lg_entry_eq]
  generalize hAe : va_A ws s.heap.size = A at hD hSX ⊢
  exact body p e s m _ below meth c A ⟨B.exec, B.bytes, hml, findClass_of_methodNamed B.named, fun w h => hts w (List.mem_cons_of_mem _ h), hK, B.returns, B.notSynchronized, hSX⟩ (fun q h => by rw [← hAe]; exact Or.inr h) hP hD va_S.rf _ hl
theorem CV.of {y : MethodName} {d : Nat} {av : List Value} {ws' : va_W} (hy : plainName y.cls = true) (hlen : (lg_sl av).length ≤ nL)
    (body : ∀ (p : Program) (e : Env) (s : State) (m : MethodId) (args : Array Value) (below : List Frame) (meth : Method) (c : Code) (A : Nat → Prop), CX G A y.cls cc nL none p s m args meth c → (∀ q : Nat, s.heap.size ≤ q → A q) →
      va_P G.1 vwCl ws s.heap → va_D A ws → va_S A s.heap s.heap [] → ∀ ls, lv_has ls nL (lv_args 0 av) → W p l e (RM d) s m args below meth c s.heap [] 0 0 (MQ below (QV G A ws') args s 0 0 A) (F0 m 0 ls [])) :
    CV l G y cc nL d av ws ws' := by
  intro sz
  refine Met.ofW (cc := cc) (maxL := nL) (ret := none) hy rfl ?_
  intro p e s m args below meth c s₁ B hml hv
  obtain ⟨rfl, hsz, hP, hK, hD0, hSX⟩ := hv
  have hts := atoms_spec (ws := Cond.code y cc nL none :: TT) B.pre
  subst hsz
  have hD := hD0.self (sz := s.heap.size)
  have hl := lv_entry av (n := nL) hlen
  rw [lg_entry_eq]
  generalize hAe : va_A ws s.heap.size = A at hD hSX ⊢
  exact body p e s m _ below meth c A ⟨B.exec, B.bytes, hml, findClass_of_methodNamed B.named, fun w h => hts w (List.mem_cons_of_mem _ h), hK, B.returns, B.notSynchronized, hSX⟩ (fun q h => by rw [← hAe]; exact Or.inr h) hP hD va_S.rf _ hl
/-- the end of a method -/
theorem r_iret {v : Int32} (X : CX G A own cc nL (some .int) p s m args meth c) (hP : va_P G.1 vwCl ws H) (hD : va_D A ws) (hS : va_S A s.heap H locs) (hdg : decode cc pc = .ok (.ireturn, 1)) : W p l e R s m args below meth c H locs cells slots (MQ below (QI G A v ws) args s cells slots A) (F0 m pc ls [.int v]) :=
  W.iret X.hx X.hb X.hr (fun t ht hW => ⟨⟨v, (), rfl, rfl, by rw [ht]; exact hP, hD⟩, hS.F ht⟩) hS.2.2 hdg X.hlk
theorem r_zret {v : Int32} (X : CX G A own cc nL (some .boolean) p s m args meth c) (hP : va_P G.1 vwCl ws H) (hD : va_D A ws) (hS : va_S A s.heap H locs) (hv : narrow .boolean (.int v) = .int v) (hdg : decode cc pc = .ok (.ireturn, 1)) : W p l e R s m args below meth c H locs cells slots (MQ below (QI G A v ws) args s cells slots A) (F0 m pc ls [.int v]) :=
  W.zret X.hx X.hb X.hr hv (fun t ht hW => ⟨⟨v, (), rfl, rfl, by rw [ht]; exact hP, hD⟩, hS.F ht⟩) hS.2.2 hdg X.hlk
theorem r_vret (X : CX G A own cc nL none p s m args meth c) (hP : va_P G.1 vwCl ws H) (hD : va_D A ws) (hS : va_S A s.heap H locs) (hdg : decode cc pc = .ok (.return_, 1)) : W p l e R s m args below meth c H locs cells slots (MQ below (QV G A ws) args s cells slots A) (F0 m pc ls []) :=
  W.vret X.hx X.hb X.hr (fun t ht hW => ⟨⟨(), rfl, trivial, by rw [ht]; exact hP, hD⟩, hS.F ht⟩) hS.2.2 hdg X.hlk
/-- a callee's world put back into its places -/
def va_rp : va_W → List Nat → va_W → va_W
  | ws, i :: is, e :: es => va_rp (ws.set i e) is es
  | ws, _, _ => ws
theorem va_rp_at : ∀ (is : List Nat) (es ws : va_W), is.length = es.length → (∀ i ∈ is, i < ws.length) → va_nd is = true → ∀ (k : Nat) (q : Nat × va_E), (va_rp ws is es)[k]? = some q → (∃ j : Nat, is[j]? = some k ∧ es[j]? = some q) ∨ (k ∉ is ∧ ws[k]? = some q) := by
  intro is
  induction is with
  | nil => intro es ws h1 h2 h3 k q hq; exact Or.inr ⟨List.not_mem_nil, by cases es <;> exact hq⟩
  | cons i is ih =>
    intro es ws h1 h2 h3 k q hq
    cases es with
    | nil => simp at h1
    | cons x es =>
      have h3' : (decide (i ∉ is) && va_nd is) = true := h3
      rw [Bool.and_eq_true] at h3'
      rcases ih es (ws.set i x) (by simpa using h1) (fun j hj => by rw [List.length_set]; exact h2 j (List.mem_cons_of_mem _ hj)) h3'.2 k q hq with ⟨j, a1, a2⟩ | ⟨a1, a2⟩
      · exact Or.inl ⟨j + 1, a1, a2⟩
      · by_cases hk : i = k
        · subst hk
          rw [List.getElem?_set_self (h2 i List.mem_cons_self)] at a2
          exact Or.inl ⟨0, rfl, a2⟩
        · rw [List.getElem?_set_ne hk] at a2
          exact Or.inr ⟨fun h => (List.mem_cons.mp h).elim (fun h => hk h.symm) a1, a2⟩
theorem va_rp_ok {D : va_G} {cl : List vw_C} {wc wc' wo : va_W} {H1 : Heap} (hP : va_P D cl ws H) (hD : va_D A ws) (is : List Nat) (hC : is.map (fun i => ws[i]?) = wc.map some) (hn : va_nd is = true) (hl : wc'.length = wc.length) (ho : va_rp ws is wc' = wo)
    (hk : ∀ q : Nat, q < H.size → ¬ va_A wc H.size q → H1[q]? = H[q]?) (hF : ∀ q, va_A wc H.size q → A q) (hP1 : va_P D cl wc' H1) (hD1 : va_D (va_A wc H.size) wc') : va_P D cl wo H1 ∧ va_D A wo := by
  subst ho
  have hlen : is.length = wc.length := by have := congrArg List.length hC; simpa using this
  have hlt : ∀ i ∈ is, i < ws.length := by
    intro i hi
    obtain ⟨j, hj⟩ := List.getElem?_of_mem hi
    have h1 : (is.map (fun i => ws[i]?))[j]? = some (ws[i]?) := by rw [List.getElem?_map, hj]; rfl
    rw [hC, List.getElem?_map] at h1
    cases hw : wc[j]? with
    | none => rw [hw] at h1; cases h1
    | some q => rw [hw] at h1; exact (List.getElem?_eq_some_iff.mp (Option.some.inj h1).symm).1
  have hat := va_rp_at is wc' ws (by rw [hlen, hl]) hlt hn
  have inC : ∀ (j k : Nat) (q : Nat × va_E), wc[j]? = some q → is[j]? = some k → ws[k]? = some q := by
    intro j k q h1 h2
    have h3 : (is.map (fun i => ws[i]?))[j]? = some (ws[k]?) := by rw [List.getElem?_map, h2]; rfl
    rw [hC, List.getElem?_map, h1] at h3
    exact (Option.some.inj h3).symm
  have isOf : ∀ (j : Nat) (q : Nat × va_E), wc[j]? = some q → ∃ k, is[j]? = some k ∧ ws[k]? = some q := by
    intro j q h1
    have hj : j < is.length := by rw [hlen]; exact (List.getElem?_eq_some_iff.mp h1).1
    exact ⟨is[j], List.getElem?_eq_getElem hj, inC j _ q h1 (List.getElem?_eq_getElem hj)⟩
  have apart : ∀ (k : Nat) (q : Nat × va_E), k ∉ is → ws[k]? = some q → q.1 < H.size ∧ ¬ va_A wc H.size q.1 := by
    intro k q hk2 hq
    refine ⟨(hP k q hq).lt, fun h => ?_⟩
    rcases h with ⟨j, e2, h⟩ | h
    · obtain ⟨k2, b1, b2⟩ := isOf j _ h
      have := hD.1 k k2 q (q.1, e2) hq b2 rfl
      subst this
      exact hk2 (List.mem_of_getElem? b1)
    · have := (hP k q hq).lt; omega
  refine ⟨fun k q hq => ?_, fun i j x y hx hy hxy => ?_, fun k q hq => ?_⟩
  · rcases hat k q hq with ⟨j, a1, a2⟩ | ⟨a1, a2⟩
    · exact hP1 j q a2
    · obtain ⟨g1, g2⟩ := apart k q a1 a2
      exact (hP k q a2).kept (hk q.1 g1 g2)
  · rcases hat i x hx with ⟨i', a1, a2⟩ | ⟨a1, a2⟩ <;> rcases hat j y hy with ⟨j', b1, b2⟩ | ⟨b1, b2⟩
    · have := hD1.1 i' j' x y a2 b2 hxy
      subst this
      exact Option.some.inj (a1.symm.trans b1)
    · exact absurd (by rw [← hxy]; exact hD1.2 i' x a2) (apart j y b1 b2).2
    · exact absurd (by rw [hxy]; exact hD1.2 j' y b2) (apart i x a1 a2).2
    · exact hD.1 i j x y a2 b2 hxy
  · rcases hat k q hq with ⟨j, a1, a2⟩ | ⟨a1, a2⟩
    · exact hF q.1 (hD1.2 j q a2)
    · exact hD.2 k q a2
/-- a call's place: what the tables say of it -/
def SB (own : String) (idx : Nat) (y : MethodName) (c2 : ByteArray) (n2 : Nat) (rt : Option FieldType) (n : Nat) : Prop :=
  Cond.methodLink own idx y ∈ TT ∧ Cond.initialized y.cls ∈ TT ∧ Cond.code y c2 n2 rt ∈ TT ∧ (y.cls ≠ "java/lang/invoke/MethodHandle" ∧ y.cls ≠ "java/lang/invoke/VarHandle" ∧ (parseMethodDescriptor y.desc).map (fun d => d.parameters.length) = some n)
def SN (own : String) (idx : Nat) (y : MethodName) (c2 : ByteArray) (n2 : Nat) (rt : Option FieldType) (n : Nat) : Prop :=
  Cond.methodLinkNest own idx y "StrangerMarket" ∈ NW ∧ Cond.initialized y.cls ∈ TT ∧ Cond.code y c2 n2 rt ∈ TT ∧ (y.cls ≠ "java/lang/invoke/MethodHandle" ∧ y.cls ≠ "java/lang/invoke/VarHandle" ∧ (parseMethodDescriptor y.desc).map (fun d => d.parameters.length) = some n)
def SV (own : String) (idx : Nat) (y : MethodName) (c2 : ByteArray) (n2 : Nat) (rt : Option FieldType) (n : Nat) : Prop := SB own idx y c2 n2 rt n ∧ Cond.instanceMethod y ∈ TT ∧ Cond.selects y.cls y y ∈ TT
def SS (own : String) (idx : Nat) (y : MethodName) (c2 : ByteArray) (n2 : Nat) (rt : Option FieldType) (n : Nat) : Prop := SB own idx y c2 n2 rt n ∧ Cond.static y ∈ TT
def SNS (own : String) (idx : Nat) (y : MethodName) (c2 : ByteArray) (n2 : Nat) (rt : Option FieldType) (n : Nat) : Prop := SN own idx y c2 n2 rt n ∧ Cond.static y ∈ TT
variable {idx : Nat} {y : MethodName} {c2 : ByteArray} {n2 n d2 : Nat} {rt : FieldType} {As : List Value} {b : Nat} {wc wc' wo : va_W} {r : Int32}
theorem SB.cb {o2 : Option FieldType} (X : CX G A own cc nL ret p s m args meth c) (K : SB own idx y c2 n2 o2 n) (hR : d2 + 1 ≤ R.frames ∧ 8 + (n2 + 11) + 60 * d2 ≤ R.locals) : CallB R s args own idx y c2 n2 o2 (Cond.code y c2 n2 o2 :: TT) (RM d2) 0 0 n :=
  callB_of n X.hts (tt_code K.2.2.1) rfl rfl rfl (X.hts _ K.2.1) (X.hts _ K.1) K.2.2.2 hR
theorem SN.cb {o2 : Option FieldType} (X : CX G A own cc nL ret p s m args meth c) (K : SN own idx y c2 n2 o2 n) (hR : d2 + 1 ≤ R.frames ∧ 8 + (n2 + 11) + 60 * d2 ≤ R.locals) : va_CN R s args own idx y "StrangerMarket" c2 n2 o2 (Cond.code y c2 n2 o2 :: TT) (RM d2) 0 0 n :=
  va_cnB n X.hts (tt_code K.2.2.1) rfl rfl rfl (X.hN _ K.1) (X.hts _ K.2.1) K.2.2.2 hR
theorem preS_of {av : List Value} (X : CX G A own cc nL ret p s m args meth c) (hP : va_P G.1 vwCl wc H) (hD : va_D A wc) (hS : va_S A s.heap H locs) (hF : ∀ q, va_A wc H.size q → A q) : PreS s H (va_Pc av (PX G wc H.size)) av :=
  ⟨PX.blind, fun U hU hW => ⟨rfl, by rw [hU], by rw [hU]; exact hP, KX.warm hW X.hKX, hD.weaken (fun _ _ _ _ => trivial), SX.go X.hSX hS hF hU hW⟩⟩
theorem preV_of (X : CX G A own cc nL ret p s m args meth c) (hP0 : va_P G.1 vwCl ws H) (q0 : Nat) {ci : Nat} {fs : List Value} {T : u_T} {N : Nat} {C : String} (he : ws[q0]? = some (b, .inr (ci, fs))) (hc : vwCl[ci]? = some (C, T, N)) (hP : va_P G.1 vwCl wc H) (hD : va_D A wc) (hS : va_S A s.heap H locs) (hF : ∀ q, va_A wc H.size q → A q) : PreV s H C b (va_Pc (.ref b :: As) (PX G wc H.size)) As :=
  ⟨PX.blind, va_recv X.hK hP0 hc he, fun U hU hW => ⟨rfl, by rw [hU], by rw [hU]; exact hP, KX.warm hW X.hKX, hD.weaken (fun _ _ _ _ => trivial), SX.go X.hSX hS hF hU hW⟩⟩
/-- behind a call: int and void -/
theorem r_afi (hr : va_Run p l e R s m args below meth c H locs cells slots 0 0 (F0 m pc ls rest) As (QI G (va_A wc H.size) r wc' args) (va_A wc H.size)) (hP : va_P G.1 vwCl ws H) (hD : va_D A ws) (hS : va_S A s.heap H locs) (hA : ∀ q : Nat, s.heap.size ≤ q → A q) (is : List Nat) (hC : is.map (fun i => ws[i]?) = wc.map some) (hn : va_nd is = true) (hl : wc'.length = wc.length) (ho : va_rp ws is wc' = wo)
    (kk : ∀ (H1 : Heap) (locs1 : List Loc), va_P G.1 vwCl wo H1 → va_D A wo → va_S A s.heap H1 locs1 → W p l e R s m args below meth c H1 locs1 cells slots Q (F0 m (pc + 3) ls (.int r :: As))) : W p l e R s m args below meth c H locs cells slots Q (F0 m pc ls rest) := by
  have hF := va_free (wc := wc) hD hS hA is hC
  refine va_calli hr hS (fun q _ h => hF q h) hF (fun r' u t H1 locs1 ht hvm hw hB hz hk hS1 => ?_)
  obtain ⟨hP1, hD1⟩ := hB
  rw [ht] at hP1
  obtain ⟨hP2, hD2⟩ := va_rp_ok hP hD is hC hn hl ho hk hF hP1 hD1
  rw [hw]
  exact kk H1 locs1 hP2 hD2 hS1
theorem r_afv (hr : va_Run p l e R s m args below meth c H locs cells slots 0 0 (F0 m pc ls rest) As (QV G (va_A wc H.size) wc' args) (va_A wc H.size)) (hP : va_P G.1 vwCl ws H) (hD : va_D A ws) (hS : va_S A s.heap H locs) (hA : ∀ q : Nat, s.heap.size ≤ q → A q) (is : List Nat) (hC : is.map (fun i => ws[i]?) = wc.map some) (hn : va_nd is = true) (hl : wc'.length = wc.length) (ho : va_rp ws is wc' = wo)
    (kk : ∀ (H1 : Heap) (locs1 : List Loc), va_P G.1 vwCl wo H1 → va_D A wo → va_S A s.heap H1 locs1 → W p l e R s m args below meth c H1 locs1 cells slots Q (F0 m (pc + 3) ls As)) : W p l e R s m args below meth c H locs cells slots Q (F0 m pc ls rest) := by
  have hF := va_free (wc := wc) hD hS hA is hC
  refine va_callv hr hS (fun q _ h => hF q h) hF (fun u t H1 locs1 ht hvm hw hB hz hk hS1 => ?_)
  obtain ⟨hP1, hD1⟩ := hB
  rw [ht] at hP1
  obtain ⟨hP2, hD2⟩ := va_rp_ok hP hD is hC hn hl ho hk hF hP1 hD1
  exact kk H1 locs1 hP2 hD2 hS1
end LY
