/-! what a throw stands on -/
abbrev NSE : String := "java/util/NoSuchElementException"
abbrev XN : List String := ["java/lang/RuntimeException", "java/lang/Exception"]
def XW : List Cond := [Cond.castable NSE NSE, Cond.declares ⟨"java/lang/RuntimeException", "<init>", "()V"⟩, Cond.declares ⟨"java/lang/Exception", "<init>", "()V"⟩, Cond.declares ⟨"java/lang/Throwable", "<init>", "()V"⟩]
theorem xw_sub : ∀ w ∈ (vx_at0 RX10 140 NSE XN).filter (fun w => !goodWord w), w ∈ XW := by decide +kernel
theorem xw_tb : ∀ w ∈ (vx_at0 RX10 140 NSE XN).filter goodWord, w ∈ lw_tbl := by decide +kernel
theorem xw_tt : ∀ w ∈ (vx_at0 RX10 140 NSE XN).filter goodWord, w ∈ TT := fun w hw => List.mem_filter.mpr ⟨xw_tb w hw, (List.mem_filter.mp hw).2⟩
theorem xw_good : ∀ w ∈ Cond.classLink RX10 138 NSE :: Cond.initialized NSE :: vx_at0 RX10 140 NSE XN, vx_ot w = true := by decide +kernel
theorem xw_ot : ∀ w ∈ XW, w.onTables = true := by decide +kernel
theorem xw_warm {s U : State} (hW : s.WarmedH U.vm) (h : ∀ w ∈ XW, va_Nw w s) : ∀ w ∈ XW, va_Nw w U := by
  intro w hw
  have h0 := h w hw
  rcases List.mem_cons.mp hw with e | hw
  · subst e
    exact va_tabs rfl (rfl : (s.setVm U.vm).vm = U.vm) (by rw [Cond.castable_setVm hW.alike]; exact h0)
  · rcases List.mem_cons.mp hw with e | hw
    · subst e; exact va_Nw.warmD hW h0
    · rcases List.mem_cons.mp hw with e | hw
      · subst e; exact va_Nw.warmD hW h0
      · rcases List.mem_cons.mp hw with e | hw
        · subst e; exact va_Nw.warmD hW h0
        · cases hw
def EX (A : Nat → Prop) (U : State) (H : Heap) : Prop := vx_Zq Bundle.tN "UNASSIGNED_STACK" Bundle.steD A U H ∧ vx_Zq Bundle.tN "SUPPRESSED_SENTINEL" Bundle.listD A U H ∧ ∀ w ∈ XW, va_Nw w U
theorem EX.go {A B : Nat → Prop} {s U : State} {H : Heap} {locs : List Loc} (h : EX A s s.heap) (hS : va_S A s.heap H locs) (hB : ∀ q, B q → A q) (hU : U.heap = H) (hW : s.WarmedH U.vm) : EX B U U.heap := by
  rw [hU]
  exact ⟨vx_Zq.moved hW.alike (vx_Zq.narrow (vx_Zq.kept h.1 hS.2.1) hB), vx_Zq.moved hW.alike (vx_Zq.narrow (vx_Zq.kept h.2.1 hS.2.1) hB), xw_warm hW h.2.2⟩
theorem EX.same {A : Nat → Prop} {u U : State} {H : Heap} (hv : U.vm = u.vm) (h : EX A u H) : EX A U H := by
  have ha : u.vm.Alike U.vm := by rw [hv]; exact Vm.Alike.refl _
  exact ⟨vx_Zq.moved ha h.1, vx_Zq.moved ha h.2.1, fun w hw => va_tabs (xw_ot w hw) hv.symm (h.2.2 w hw)⟩
def PE (G : GT) (ws : va_W) (sz : Nat) (U : State) : Prop := PX G ws sz U ∧ EX (va_A ws sz) U U.heap
theorem PE.blind {G : GT} {av : List Value} {ws : va_W} {sz : Nat} : FrameBlind (va_Pc av (PE G ws sz)) := by
  intro a U g mk q
  obtain ⟨q0, q1, q2⟩ := q
  obtain ⟨r0, r1⟩ := PX.blind (G := G) (av := av) (ws := ws) (sz := sz) a U g mk ⟨q0, q1⟩
  exact ⟨r0, r1, EX.same (u := U) (U := U.calling g mk a) rfl q2⟩
theorem met_ofWH {l : Launch} {y : MethodName} {ws ws' : List Cond} {rm : Room} {Pc : Array Value → State → Prop} {Qc : Array Value → State → Outcome → State → Prop} {mc ms : Nat} {free : Addr → Prop} {cc : ByteArray} {maxL : Nat} {ret : Option FieldType} {hh : List (Nat × Nat × Nat × Nat)}
    (hy : plainName y.cls = true) (hw : ws = Cond.codeWith y cc maxL ret hh :: ws')
    (body : ∀ p e s m args below meth c s₁, BodyLoose p l y (headSpec ws rm) cc maxL ret e s m args below meth c s₁ → c.maxLocals = maxL → Pc args s →
      W p l e (headSpec ws rm).room s m args below meth c s.heap [] 0 0 (MQ below Qc args s mc ms free) (entryFrame m args maxL)) : Met l y ws rm Pc Qc mc ms free := by
  refine MetFree.of_bodyS (code := cc) (maxLocals := maxL) (ret := ret) hy ?_ ?_
  · intro args s m h hn
    obtain ⟨m9, meth, c, hn9, h1, h2, h3, h4, -, h5, h6, -⟩ := Cond.codeWith_spec (atoms_spec (ws := ws) h _ (by rw [hw]; exact List.mem_cons_self))
    cases hn.symm.trans hn9
    exact ⟨meth, c, h1, h2, h3, h4, h5, h6⟩
  · intro p e s m args below meth c s₁ B hml hP _
    have hh0 : s₁.heap = s.heap := by rw [B.state]; rfl
    obtain ⟨t, a1, o, b1, b2, b3⟩ := body p e s m args below meth c s₁ B hml hP s₁ hh0 (Stand.of_body B)
    exact ⟨t, o, a1, b1, b2, b3⟩
/-- where the class's person throws -/
def QT (A : Nat → Prop) : Array Value → State → Outcome → State → Prop := va_Qi (fun (_ : Int32) (_ : Unit) => False) (fun _ _ => True) A
def XT (G : GT) (ws : va_W) (A : Nat → Prop) : String → State → State → Prop := vx_X (fun (_ : Unit) => True) (fun E _ t => E = NSE ∧ va_P G.1 vwCl ws t.heap) A
set_option maxHeartbeats 4000000 in
theorem c_X10_personT (l : Launch) (hfl : l.stackTraces = false) (G : GT) (N : Nat) (uX uM uC : Nat → Nat) (xX0 xX2 xX4 xX7 xX8 xX9 xX10 xX11 xX12 xX13 : Nat) (qX : Nat → Option Nat) (iX : Nat → Int32) (iM : Nat → Int32) (sM : Nat → Nat → Int32) (iC : Nat → Int32) (tC : Nat → Nat → Int64) (sC : Nat → Nat → Int32) (p1 : Int32) (p2 : Int32) (hp : f_X1_isPerson N iC tC sC p1 = some 0 ∨ (f_X1_isPerson N iC tC sC p1 = some 1 ∧ (p2 < 0 ∨ ¬ p2 ≤ 7))) : ∀ sz, vx_Met l yX10_person (Cond.code yX10_person cX10_person 3 (some .int) :: TT) (RMA 6 1 6) (va_Pc [.ref (uX 0), .int p1, .int p2] (PE G (gX G uX xX0 (uC 0) xX2 (uM 0) xX4 xX7 xX8 xX9 xX10 xX11 xX12 xX13 qX iX ++ gM G uM (uC 0) iM sM ++ gC G uC iC tC sC) sz)) (QT (va_A (gX G uX xX0 (uC 0) xX2 (uM 0) xX4 xX7 xX8 xX9 xX10 xX11 xX12 xX13 qX iX ++ gM G uM (uC 0) iM sM ++ gC G uC iC tC sC) sz)) (XT G (gX G uX xX0 (uC 0) xX2 (uM 0) xX4 xX7 xX8 xX9 xX10 xX11 xX12 xX13 qX iX ++ gM G uM (uC 0) iM sM ++ gC G uC iC tC sC) (va_A (gX G uX xX0 (uC 0) xX2 (uM 0) xX4 xX7 xX8 xX9 xX10 xX11 xX12 xX13 qX iX ++ gM G uM (uC 0) iM sM ++ gC G uC iC tC sC) sz)) 1 6 (va_A (gX G uX xX0 (uC 0) xX2 (uM 0) xX4 xX7 xX8 xX9 xX10 xX11 xX12 xX13 qX iX ++ gM G uM (uC 0) iM sM ++ gC G uC iC tC sC) sz) := by
  intro sz
  refine vx_ofW (cc := cX10_person) (maxL := 3) (ret := some .int) (by decide) rfl ?_
  intro p e s m args below meth c s₁ B hml htab hv
  obtain ⟨rfl, ⟨hsz, hP, hK, hD0, hSX⟩, hEX⟩ := hv
  have hts := atoms_spec (ws := Cond.code yX10_person cX10_person 3 (some .int) :: TT) B.pre
  subst hsz
  have hD := hD0.self (sz := s.heap.size)
  have hl := lv_entry [.ref (uX 0), .int p1, .int p2] (n := 3) (Nat.le_of_ble_eq_true rfl)
  rw [lg_entry_eq]
  have hA : ∀ q : Nat, s.heap.size ≤ q → va_A (gX G uX xX0 (uC 0) xX2 (uM 0) xX4 xX7 xX8 xX9 xX10 xX11 xX12 xX13 qX iX ++ gM G uM (uC 0) iM sM ++ gC G uC iC tC sC) s.heap.size q := fun q h => Or.inr h
  generalize va_A (gX G uX xX0 (uC 0) xX2 (uM 0) xX4 xX7 xX8 xX9 xX10 xX11 xX12 xX13 qX iX ++ gM G uM (uC 0) iM sM ++ gC G uC iC tC sC) s.heap.size = A at hD hSX hEX hA ⊢
  have X : CX G A RX10 cX10_person 3 (some .int) p s m _ meth c := ⟨B.exec, B.bytes, hml, findClass_of_methodNamed B.named, fun w h => hts w (List.mem_cons_of_mem _ h), hK, B.returns, B.notSynchronized, hSX⟩
  have hS : va_S A s.heap s.heap [] := va_S.rf
  suffices K : ∀ ls : Array Slot, lv_has ls 3 [(0, .ref (uX 0)), (1, .int p1), (2, .int p2)] → W p l e (RMA 6 1 6) s m ([.ref (uX 0), .int p1, .int p2] : List Value).toArray below meth c s.heap [] 0 0 (vx_MQ below (QT A) (XT G (gX G uX xX0 (uC 0) xX2 (uM 0) xX4 xX7 xX8 xX9 xX10 xX11 xX12 xX13 qX iX ++ gM G uM (uC 0) iM sM ++ gC G uC iC tC sC) A) ([.ref (uX 0), .int p1, .int p2] : List Value).toArray s 1 6 A) (F0 m 0 ls []) from K _ hl
  intro ls hl
  have T21 : ∀ (H : Heap) (locs : List Loc), va_P G.1 vwCl (gX G uX xX0 (uC 0) xX2 (uM 0) xX4 xX7 xX8 xX9 xX10 xX11 xX12 xX13 qX iX ++ gM G uM (uC 0) iM sM ++ gC G uC iC tC sC) H → va_S A s.heap H locs → W p l e (RMA 6 1 6) s m ([.ref (uX 0), .int p1, .int p2] : List Value).toArray below meth c H locs 0 0 (vx_MQ below (QT A) (XT G (gX G uX xX0 (uC 0) xX2 (uM 0) xX4 xX7 xX8 xX9 xX10 xX11 xX12 xX13 qX iX ++ gM G uM (uC 0) iM sM ++ gC G uC iC tC sC) A) ([.ref (uX 0), .int p1, .int p2] : List Value).toArray s 1 6 A) (F0 m 21 ls []) := by
    intro H locs hP hS
    refine vx_throw0 (cls := NSE) (names := XN) (A := A) X.hx X.hb hfl X.hown (by decide) (by decide) (X.hts _ tw_1209) (X.hts _ tw_23) (vx_hat (fun w hw => X.hts w (xw_tt w hw)) xw_sub (fun w hw => va_any (xw_ot w hw) (hEX.2.2 w hw))) xw_good hEX.1 hEX.2.1 hS (by rw [X.hml]; exact hl.1) dX10_person_21 dX10_person_24 dX10_person_25 dX10_person_28 (fun x hx => (htab x hx).elim) (by decide) (by decide) (by decide) (by decide) X.hlk (fun t hv hz hk => ?_) hS.2.2 (Nat.le_refl _) (Nat.le_refl _)
    refine ⟨(), trivial, ⟨rfl, fun k q hq => ?_⟩, Nat.le_trans hS.1 hz, fun q h1 h2 => ?_⟩
    · exact (hP k q hq).kept (hk q.1 (hP k q hq).lt)
    · rw [hk q (Nat.lt_of_lt_of_le h1 hS.1)]; exact hS.2.1 q h1 h2
  refine lv_aload_n X.hx X.hb dX10_person_0 rfl (lv_at hl 0 rfl) ?_
  refine gf_X10_19 X hP 0 rfl (v := .ref (uC 0)) rfl dX10_person_1 ?_
  refine lv_iload_n X.hx X.hb dX10_person_4 rfl (lv_at hl 1 rfl) ?_
  rcases hp with hp | ⟨hp, h2⟩
  · refine r_bvi (gX G uX xX0 (uC 0) xX2 (uM 0) xX4 xX7 xX8 xX9 xX10 xX11 xX12 xX13 qX iX ++ gM G uM (uC 0) iM sM) ([] : va_W) (As := [.int p1]) (rest := []) X sm_X10_134 (c_X1_isPerson l G N uC iC tC sC p1 hp) hP hD hS hA (by simp only [List.append_assoc, List.append_nil, List.nil_append]) (wo := (gX G uX xX0 (uC 0) xX2 (uM 0) xX4 xX7 xX8 xX9 xX10 xX11 xX12 xX13 qX iX ++ gM G uM (uC 0) iM sM ++ gC G uC iC tC sC)) (by simp only [List.append_assoc, List.append_nil, List.nil_append]) 0 rfl rfl rfl hl.1 (lv_room (Nat.le_of_ble_eq_true rfl)) ⟨Nat.le_of_ble_eq_true rfl, Nat.le_of_ble_eq_true rfl⟩ ⟨Nat.zero_le _, Nat.zero_le _⟩ dX10_person_5 (fun H locs hP hD hS => ?_)
    exact lv_if_eq (tgt := 21) X.hx X.hb dX10_person_8 (by decide) (fun _ => T21 H locs hP hS) (fun hc => absurd rfl hc)
  · refine r_bvi (gX G uX xX0 (uC 0) xX2 (uM 0) xX4 xX7 xX8 xX9 xX10 xX11 xX12 xX13 qX iX ++ gM G uM (uC 0) iM sM) ([] : va_W) (As := [.int p1]) (rest := []) X sm_X10_134 (c_X1_isPerson l G N uC iC tC sC p1 hp) hP hD hS hA (by simp only [List.append_assoc, List.append_nil, List.nil_append]) (wo := (gX G uX xX0 (uC 0) xX2 (uM 0) xX4 xX7 xX8 xX9 xX10 xX11 xX12 xX13 qX iX ++ gM G uM (uC 0) iM sM ++ gC G uC iC tC sC)) (by simp only [List.append_assoc, List.append_nil, List.nil_append]) 0 rfl rfl rfl hl.1 (lv_room (Nat.le_of_ble_eq_true rfl)) ⟨Nat.le_of_ble_eq_true rfl, Nat.le_of_ble_eq_true rfl⟩ ⟨Nat.zero_le _, Nat.zero_le _⟩ dX10_person_5 (fun H locs hP hD hS => ?_)
    refine lv_if_eq (tgt := 21) X.hx X.hb dX10_person_8 (by decide) (fun hc => absurd hc (by decide)) (fun _ => ?_)
    refine lv_iload_n X.hx X.hb dX10_person_11 rfl (lv_at hl 2 rfl) ?_
    refine lv_if_lt (tgt := 21) X.hx X.hb dX10_person_12 (by decide) (fun _ => T21 H locs hP hS) (fun hc => ?_)
    refine lv_iload_n X.hx X.hb dX10_person_15 rfl (lv_at hl 2 rfl) ?_
    refine lv_bipush (v := 7) X.hx X.hb dX10_person_16 (by decide) ?_
    exact lv_icmp_le (tgt := 29) X.hx X.hb dX10_person_18 (by decide) (fun h7 => absurd h7 (h2.resolve_left hc)) (fun _ => T21 H locs hP hS)
