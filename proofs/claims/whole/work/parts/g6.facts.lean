/-! LAW: what the start gives -/
def WL : List Cond := [Cond.laysStatic "java/lang/String" "COMPACT_STRINGS" "Z", Cond.initialized "java/lang/String", Cond.laysStatic "jdk/internal/util/Preconditions" "SIOOBE_FORMATTER" "Ljava/util/function/BiFunction;", Cond.initialized "jdk/internal/util/Preconditions", Cond.laysStatic Bundle.tN "UNASSIGNED_STACK" Bundle.steD, Cond.laysStatic Bundle.tN "SUPPRESSED_SENTINEL" Bundle.listD, Cond.initialized Bundle.tN, Cond.stringRef RX8 19 "person good sells wants knows foes deals veils bell buys nods tells day or and not home veiled fed sold coins friends hunger number ", Cond.stringRef RX5 29 " knows", Cond.stringRef RX5 52 " nobody", Cond.stringRef RX5 57 " veiled", Cond.stringRef RX5 62 " home", Cond.arrayClass .byte, Cond.arrayClass .int, Cond.arrayClass .long, Cond.arrayClass .boolean, Cond.arrayOver (.object RX4)]
theorem wl_in : ∀ w ∈ WL, w ∈ lw_tbl := by decide +kernel
theorem xw_in : ∀ w ∈ XW, w ∈ lw_tbl := by decide +kernel
def FN : List Cond := flatC (Jvm.Cond.and given_1 narrow_1)
theorem nl_0 : Cond.eq (.static "java/lang/String" "COMPACT_STRINGS" "Z") (.int 1) ∈ FN := by decide +kernel
theorem nl_1 : Cond.isRef (.static "jdk/internal/util/Preconditions" "SIOOBE_FORMATTER" "Ljava/util/function/BiFunction;") ∈ FN := by decide +kernel
theorem nl_2 : Cond.isRef (.static Bundle.tN "UNASSIGNED_STACK" Bundle.steD) ∈ FN := by decide +kernel
theorem nl_3 : Cond.isRef (.static Bundle.tN "SUPPRESSED_SENTINEL" Bundle.listD) ∈ FN := by decide +kernel
def tmS : Nat → Term := fun i => match i with
  | 0 => (Term.string RX8 19)
  | 1 => (Term.string RX5 29)
  | 2 => (Term.string RX5 52)
  | 3 => (Term.string RX5 57)
  | _ => (Term.string RX5 62)
theorem tm_ex : ∀ i, i < 5 → Cond.exactly (tmS i) "java/lang/String" ∈ FN := by decide +kernel
theorem tm_co : ∀ i, i < 5 → Cond.eq (.field (tmS i) "java/lang/String" "coder" "B") (.int 0) ∈ FN := by decide +kernel
theorem tm_ar : ∀ i, i < 5 → Cond.arrayOf (.field (tmS i) "java/lang/String" "value" "[B") .byte ∈ FN := by decide +kernel
theorem tm_ln : ∀ i, i < 5 → Cond.eq (.length (.field (tmS i) "java/lang/String" "value" "[B")) (.int (Int32.ofNat (lenS.getD i 0))) ∈ FN := by decide +kernel
theorem el_mem {L : List Cond} {d n : Nat} {f : Nat → Cond} (h : (L.drop d).take n = (List.range n).map f) {j : Nat} (hj : j < n) : f j ∈ L := by
  have h9 : f j ∈ (List.range n).map f := List.mem_map.mpr ⟨j, List.mem_range.mpr hj, rfl⟩
  rw [← h] at h9
  exact List.mem_of_mem_drop (List.mem_of_mem_take h9)
theorem fn_na {w : Cond} (h : w ∈ flatC narrow_1) : w ∈ FN := List.mem_append_right _ h
theorem el_0 : ((flatC narrow_1).drop 25).take 132 = (List.range 132).map (fun j => Cond.eq (.elem (.field (tmS 0) "java/lang/String" "value" "[B") (.int (Int32.ofNat j))) (.int ((bytS.getD 0 []).getD j 0))) := by decide +kernel
theorem el_1 : ((flatC narrow_1).drop 161).take 6 = (List.range 6).map (fun j => Cond.eq (.elem (.field (tmS 1) "java/lang/String" "value" "[B") (.int (Int32.ofNat j))) (.int ((bytS.getD 1 []).getD j 0))) := by decide +kernel
theorem el_2 : ((flatC narrow_1).drop 172).take 7 = (List.range 7).map (fun j => Cond.eq (.elem (.field (tmS 2) "java/lang/String" "value" "[B") (.int (Int32.ofNat j))) (.int ((bytS.getD 2 []).getD j 0))) := by decide +kernel
theorem el_3 : ((flatC narrow_1).drop 185).take 7 = (List.range 7).map (fun j => Cond.eq (.elem (.field (tmS 3) "java/lang/String" "value" "[B") (.int (Int32.ofNat j))) (.int ((bytS.getD 3 []).getD j 0))) := by decide +kernel
theorem el_4 : ((flatC narrow_1).drop 199).take 5 = (List.range 5).map (fun j => Cond.eq (.elem (.field (tmS 4) "java/lang/String" "value" "[B") (.int (Int32.ofNat j))) (.int ((bytS.getD 4 []).getD j 0))) := by decide +kernel
theorem tm_el : ∀ i, i < 5 → ∀ j, j < lenS.getD i 0 → Cond.eq (.elem (.field (tmS i) "java/lang/String" "value" "[B") (.int (Int32.ofNat j))) (.int ((bytS.getD i []).getD j 0)) ∈ FN := by
  intro i hi j hj
  match i, hi, hj with
  | 0, _, hj => exact fn_na (el_mem el_0 hj)
  | 1, _, hj => exact fn_na (el_mem el_1 hj)
  | 2, _, hj => exact fn_na (el_mem el_2 hj)
  | 3, _, hj => exact fn_na (el_mem el_3 hj)
  | 4, _, hj => exact fn_na (el_mem el_4 hj)
  | n + 5, h, _ => exact absurd h (by omega)
theorem tm_ne : ∀ i, i < 5 → ∀ j, j < 5 → i ≠ j → Cond.not (Cond.eq (tmS i) (tmS j)) ∈ FN ∨ Cond.not (Cond.eq (tmS j) (tmS i)) ∈ FN := by decide +kernel
theorem tm_sm : ∀ i, i < 5 → lenS.getD i 0 < 2 ^ 31 := by decide +kernel
theorem in_ar {s : State} {args : Array Value} {ty : FieldType} (h : (Cond.arrayClass ty).before args s = true) : ∃ cA, ArrOfT s cA ty ∧ s.vm.findClass ("[" ++ ty.toString) = some cA := by
  obtain ⟨c, k, comp, h1, h2, h3⟩ := Cond.arrayClass_spec h
  exact ⟨c, fun n z => ⟨fun k h => (by cases h), k, h2, comp, h3⟩, h1⟩
theorem in_ao {s : State} {args : Array Value} {C : String} (h : (Cond.arrayOver (.object C)).before args s = true) : ∃ cA, ArrOfT s cA (.object C) ∧ va_RA s cA (.object C) := by
  obtain ⟨comp, c, k, h1, -, h3, h4, h5⟩ := Cond.arrayOver_spec h
  exact ⟨c, fun n z => ⟨fun k h => (by cases h), k, h3, comp, h4⟩, k, comp, h3, h4, h1, h5⟩
theorem in_K {s : State} {args : Array Value} (htt : ∀ w ∈ TT, w.before args s = true) : ∃ D : va_G, ∀ (k : Nat) (q : vw_C), vwCl[k]? = some q → u_Kn s q.1 q.2.1 q.2.2 (D.1 k) (D.2 k) := by
  obtain ⟨c0, i0, h0⟩ := u_known (C := RX0) (T := TX0) (N := 12) (n := 12) htt hu_0 (htt _ tw_381)
  obtain ⟨c1, i1, h1⟩ := u_known (C := RX1) (T := TX1) (N := 12) (n := 12) htt hu_1 (htt _ tw_147)
  obtain ⟨c2, i2, h2⟩ := u_known (C := RX2) (T := TX2) (N := 5) (n := 5) htt hu_2 (htt _ tw_238)
  obtain ⟨c3, i3, h3⟩ := u_known (C := RX3) (T := TX3) (N := 4) (n := 4) htt hu_3 (htt _ tw_475)
  obtain ⟨c4, i4, h4⟩ := u_known (C := RX4) (T := TX4) (N := 13) (n := 13) htt hu_4 (htt _ tw_263)
  obtain ⟨c5, i5, h5⟩ := u_known (C := RX5) (T := TX5) (N := 2) (n := 2) htt hu_5 (htt _ tw_367)
  obtain ⟨c6, i6, h6⟩ := u_known (C := RX6) (T := TX6) (N := 6) (n := 6) htt hu_6 (htt _ tw_429)
  obtain ⟨c7, i7, h7⟩ := u_known (C := RX7) (T := TX7) (N := 3) (n := 3) htt hu_7 (htt _ tw_456)
  obtain ⟨c8, i8, h8⟩ := u_known (C := RX8) (T := TX8) (N := 14) (n := 14) htt hu_8 (htt _ tw_34)
  obtain ⟨c9, i9, h9⟩ := u_known (C := RX9) (T := TX9) (N := 8) (n := 8) htt hu_9 (htt _ tw_331)
  obtain ⟨c10, i10, h10⟩ := u_known (C := RX10) (T := TX10) (N := 14) (n := 14) htt hu_10 (htt _ tw_26)
  obtain ⟨c11, i11, h11⟩ := u_known (C := RX11) (T := TX11) (N := 52) (n := 52) htt hu_11 (htt _ tw_1283)
  refine ⟨(fun k => [c0, c1, c2, c3, c4, c5, c6, c7, c8, c9, c10, c11].getD k 0, fun k => [i0, i1, i2, i3, i4, i5, i6, i7, i8, i9, i10, i11].getD k (fun _ => 0)), ?_⟩
  intro k q hq
  match k, hq with
  | 0, hq => cases hq; exact h0
  | 1, hq => cases hq; exact h1
  | 2, hq => cases hq; exact h2
  | 3, hq => cases hq; exact h3
  | 4, hq => cases hq; exact h4
  | 5, hq => cases hq; exact h5
  | 6, hq => cases hq; exact h6
  | 7, hq => cases hq; exact h7
  | 8, hq => cases hq; exact h8
  | 9, hq => cases hq; exact h9
  | 10, hq => cases hq; exact h10
  | 11, hq => cases hq; exact h11
  | k + 12, hq => simp [vwCl] at hq
set_option maxHeartbeats 2000000 in
theorem in_all {s : State} {b : Nat} (hts : ∀ w ∈ lw_tbl, w.before #[Value.ref b] s = true) (hgv : (Jvm.Cond.and given_1 narrow_1).before #[Value.ref b] s = true) : ∃ G : GT, KX G s ∧ SX G (fun q : Nat => s.heap.size ≤ q) s s.heap ∧ EX (fun q : Nat => s.heap.size ≤ q) s s.heap := by
  have hn : ∀ w ∈ FN, w.before #[Value.ref b] s = true := flat_of_before _ hgv
  have htt : ∀ w ∈ TT, w.before #[Value.ref b] s = true := fun w hw => hts w (tt_tbl hw)
  have hA : ∀ a : Nat, a < s.heap.size → ¬ (fun q : Nat => s.heap.size ≤ q) a := fun a h => Nat.not_le.mpr h
  obtain ⟨D, hD⟩ := in_K htt
  obtain ⟨adK, adV, hS5, hev⟩ := vk_Sof (tm := tmS) (N := 5) (len := lenS) (byt := bytS) tm_sm (fun i hi => hn _ (tm_ex i hi)) (fun i hi => hn _ (tm_co i hi)) (fun i hi => hn _ (tm_ar i hi)) (fun i hi => hn _ (tm_ln i hi)) (fun i hi j hj => hn _ (tm_el i hi j hj)) (fun i j hi hj hij => (tm_ne i hi j hj hij).imp (hn _) (hn _)) hA
  obtain ⟨a0, b0, c0⟩ := in_ar (hts _ (wl_in _ (List.mem_of_getElem? (i := 12) rfl)))
  obtain ⟨a1, b1, c1⟩ := in_ar (hts _ (wl_in _ (List.mem_of_getElem? (i := 13) rfl)))
  obtain ⟨a2, b2, c2⟩ := in_ar (hts _ (wl_in _ (List.mem_of_getElem? (i := 14) rfl)))
  obtain ⟨a3, b3, c3⟩ := in_ar (hts _ (wl_in _ (List.mem_of_getElem? (i := 15) rfl)))
  obtain ⟨a4, b4, c4⟩ := in_ao (hts _ (wl_in _ (List.mem_of_getElem? (i := 16) rfl)))
  refine ⟨(D, (fun k => [a0, a1, a2, a3, a4].getD k 0), adK, adV), ⟨⟨hD, ?_⟩, NS.of hts, va_AO.of (hts _ (wl_in _ (List.mem_of_getElem? (i := 16) rfl)))⟩, ⟨hS5, va_Zof (hts _ (wl_in _ (List.mem_of_getElem? (i := 0) rfl))) (hts _ (wl_in _ (List.mem_of_getElem? (i := 1) rfl))) (va_eqt (hn _ nl_0)) hA, va_Zqof (hts _ (wl_in _ (List.mem_of_getElem? (i := 2) rfl))) (hts _ (wl_in _ (List.mem_of_getElem? (i := 3) rfl))) (hn _ nl_1) hA, vk_R.of (hts _ (wl_in _ (List.mem_of_getElem? (i := 7) rfl))) (hev 0 (by decide)), vk_R.of (hts _ (wl_in _ (List.mem_of_getElem? (i := 8) rfl))) (hev 1 (by decide)), vk_R.of (hts _ (wl_in _ (List.mem_of_getElem? (i := 9) rfl))) (hev 2 (by decide)), vk_R.of (hts _ (wl_in _ (List.mem_of_getElem? (i := 10) rfl))) (hev 3 (by decide)), vk_R.of (hts _ (wl_in _ (List.mem_of_getElem? (i := 11) rfl))) (hev 4 (by decide))⟩, ⟨vx_Zqof (hts _ (wl_in _ (List.mem_of_getElem? (i := 4) rfl))) (hts _ (wl_in _ (List.mem_of_getElem? (i := 6) rfl))) (hn _ nl_2) hA, vx_Zqof (hts _ (wl_in _ (List.mem_of_getElem? (i := 5) rfl))) (hts _ (wl_in _ (List.mem_of_getElem? (i := 6) rfl))) (hn _ nl_3) hA, fun w hw => va_Nw.of (xw_ot w hw) (hts w (xw_in w hw))⟩⟩
  intro k q hq
  match k, hq with
  | 0, hq => cases hq; exact ⟨b0, c0⟩
  | 1, hq => cases hq; exact ⟨b1, c1⟩
  | 2, hq => cases hq; exact ⟨b2, c2⟩
  | 3, hq => cases hq; exact ⟨b3, c3⟩
  | 4, hq => cases hq; exact ⟨b4, c4⟩
  | k + 5, hq => cases hq
