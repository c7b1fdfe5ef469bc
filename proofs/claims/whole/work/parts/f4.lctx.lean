/-! LAW: its world, what stays, what a script place gives -/
def LWD (G : GT) (u : Nat → Nat → Nat) (uY : Nat → Nat) (qo : Nat) (aU : Nat → Nat → Nat) (iX : Nat → Int32) (sT : Nat → Nat → Int32) (iT : Nat → Int32) (jT : Nat → Int64) (iC : Nat → Int32) (tC : Nat → Nat → Int64) (sC : Nat → Nat → Int32) (iR : Nat → Int32) (iC2 : Nat → Int32) (tC2 : Nat → Nat → Int64) (sC2 : Nat → Nat → Int32) (iM : Nat → Int32) (sM : Nat → Nat → Int32) (iM2 : Nat → Int32) (sM2 : Nat → Nat → Int32) (iU : Nat → Nat → Int32) (sU : Nat → Nat → Nat → Int32) (iE : Nat → Int32) (sE : Nat → Nat → Int32) (sP : Nat → Nat → Int32) (iP : Nat → Int32) (sB : Nat → Nat → Int32) (iB : Nat → Int32) (iS : Nat → Int32) (sS : Nat → Nat → Int32) (iS2 : Nat → Int32) (sS2 : Nat → Nat → Int32) (iI : Nat → Int32) (iC3 : Nat → Int32) (tC3 : Nat → Nat → Int64) (sC3 : Nat → Nat → Int32) (iM3 : Nat → Int32) (sM3 : Nat → Nat → Int32) (iS3 : Nat → Int32) (sS3 : Nat → Nat → Int32) (iI2 : Nat → Int32) (iC4 : Nat → Int32) (tC4 : Nat → Nat → Int64) (sC4 : Nat → Nat → Int32) (iM4 : Nat → Int32) (sM4 : Nat → Nat → Int32) (iS4 : Nat → Int32) (sS4 : Nat → Nat → Int32) (iY : Nat → Int32) (sY : Nat → Nat → Int32) (tY : Nat → Nat → Int64) (jY : Nat → Int64) (o : Nat → Int64) : List va_W := [gX G (u 0) (u 1 0) (u 2 0) (u 3 0) (u 5 0) (u 6 0) (u 8 0) (u 9 0) (u 10 0) (u 11 0) (u 12 0) (u 14 0) (u 18 0) (kq aU) iX,
  gT G (u 1) sT iT jT,
  gC G (u 2) iC tC sC,
  gR G (u 3) (u 1 0) (u 4 0) iR,
  gC G (u 4) iC2 tC2 sC2,
  gM G (u 5) (u 2 0) iM sM,
  gM G (u 6) (u 2 0) iM2 sM2,
  gU G aU (u 2 0) iU sU,
  gE G (u 8) (u 2 0) (u 5 0) iE sE,
  gP G (u 9) sP iP,
  gB G (u 10) (u 1 0) (u 2 0) sB iB,
  gS G (u 11) iS sS,
  gQ G (u 12) (u 1 0) (u 2 0) (u 13 0),
  gS G (u 13) iS2 sS2,
  gI G (u 14) (u 15 0) (u 16 0) (u 17 0) iI,
  gC G (u 15) iC3 tC3 sC3,
  gM G (u 16) (u 15 0) iM3 sM3,
  gS G (u 17) iS3 sS3,
  gI G (u 18) (u 19 0) (u 20 0) (u 21 0) iI2,
  gC G (u 19) iC4 tC4 sC4,
  gM G (u 20) (u 19 0) iM4 sM4,
  gS G (u 21) iS4 sS4,
  gY G uY iY sY tY jY, [(qo, .inl (G.2.1 2, 1, .inr (.inl o)))]]
def WO (G : GT) (u : Nat → Nat → Nat) (uY : Nat → Nat) (qo : Nat) (A : Nat → Prop) (s : State) (H : Heap) (locs : List Loc) : Prop := ∃ (aU : Nat → Nat → Nat) (iX : Nat → Int32) (sT : Nat → Nat → Int32) (iT : Nat → Int32) (jT : Nat → Int64) (iC : Nat → Int32) (tC : Nat → Nat → Int64) (sC : Nat → Nat → Int32) (iR : Nat → Int32) (iC2 : Nat → Int32) (tC2 : Nat → Nat → Int64) (sC2 : Nat → Nat → Int32) (iM : Nat → Int32) (sM : Nat → Nat → Int32) (iM2 : Nat → Int32) (sM2 : Nat → Nat → Int32) (iU : Nat → Nat → Int32) (sU : Nat → Nat → Nat → Int32) (iE : Nat → Int32) (sE : Nat → Nat → Int32) (sP : Nat → Nat → Int32) (iP : Nat → Int32) (sB : Nat → Nat → Int32) (iB : Nat → Int32) (iS : Nat → Int32) (sS : Nat → Nat → Int32) (iS2 : Nat → Int32) (sS2 : Nat → Nat → Int32) (iI : Nat → Int32) (iC3 : Nat → Int32) (tC3 : Nat → Nat → Int64) (sC3 : Nat → Nat → Int32) (iM3 : Nat → Int32) (sM3 : Nat → Nat → Int32) (iS3 : Nat → Int32) (sS3 : Nat → Nat → Int32) (iI2 : Nat → Int32) (iC4 : Nat → Int32) (tC4 : Nat → Nat → Int64) (sC4 : Nat → Nat → Int32) (iM4 : Nat → Int32) (sM4 : Nat → Nat → Int32) (iS4 : Nat → Int32) (sS4 : Nat → Nat → Int32) (iY : Nat → Int32) (sY : Nat → Nat → Int32) (tY : Nat → Nat → Int64) (jY : Nat → Int64) (o : Nat → Int64), REL aU iX sT iT jT iC tC sC iR iC2 tC2 sC2 iM sM iM2 sM2 iU sU iE sE sP iP sB iB iS sS iS2 sS2 iI iC3 tC3 sC3 iM3 sM3 iS3 sS3 iI2 iC4 tC4 sC4 iM4 sM4 iS4 sS4 iY sY tY jY ∧ va_P G.1 vwCl (LWD G u uY qo aU iX sT iT jT iC tC sC iR iC2 tC2 sC2 iM sM iM2 sM2 iU sU iE sE sP iP sB iB iS sS iS2 sS2 iI iC3 tC3 sC3 iM3 sM3 iS3 sS3 iI2 iC4 tC4 sC4 iM4 sM4 iS4 sS4 iY sY tY jY o).flatten H ∧ va_D A (LWD G u uY qo aU iX sT iT jT iC tC sC iR iC2 tC2 sC2 iM sM iM2 sM2 iU sU iE sE sP iP sB iB iS sS iS2 sS2 iI iC3 tC3 sC3 iM3 sM3 iS3 sS3 iI2 iC4 tC4 sC4 iM4 sM4 iS4 sS4 iY sY tY jY o).flatten ∧ va_S A s.heap H locs
def LC (G : GT) (A : Nat → Prop) (p : Program) (s : State) (m : MethodId) (meth : Method) (c : Code) (b L : Nat) (xs : Nat → Int32) : Prop :=
  CX G A RL cL_law 7 (some .boolean) p s m #[Value.ref b] meth c ∧ va_X b L xs s s.heap ∧ b < s.heap.size ∧ ¬ A b ∧ (∀ q : Nat, s.heap.size ≤ q → A q) ∧ L ≤ 3072
section LX
variable {p : Program} {l : Launch} {e : Env} {s : State} {m : MethodId} {below : List Frame} {meth : Method} {c : Code} {H : Heap} {locs : List Loc} {cells slots : Nat} {Q : State → Prop} {G : GT} {A : Nat → Prop} {b L : Nat} {xs : Nat → Int32} {pc : Nat} {ls : Array Slot} {rest : List Value}
theorem r_scr (C : LC G A p s m meth c b L xs) (hS : va_S A s.heap H locs) {j k x y z : Nat} (hl : lv_has ls 7 [(4, .int (nI (6 * j))), (3, .ref z), (2, .ref y), (1, .ref x), (0, .ref b)]) (hk : 6 * j + k < L) {n : Int} (hn : Int32.ofInt n = nI k) (d0 : decode cL_law pc = .ok (.aload_n 0, 1)) (d1 : decode cL_law (pc + 1) = .ok (.iload 4, 2)) (d3 : decode cL_law (pc + 3) = .ok (.iconst n, 1)) (d4 : decode cL_law (pc + 4) = .ok (.iadd, 1)) (d5 : decode cL_law (pc + 5) = .ok (.iaload, 1))
    (kk : W p l e room_1 s m #[Value.ref b] below meth c H locs cells slots Q (F0 m (pc + 6) ls (.int (xs (6 * j + k)) :: rest))) : W p l e room_1 s m #[Value.ref b] below meth c H locs cells slots Q (F0 m pc ls rest) := by
  obtain ⟨X, hX, hb, hbA, hA, hL⟩ := C
  refine lv_aload_n X.hx X.hb d0 rfl (lv_at hl 4 rfl) ?_
  refine lv_iload X.hx X.hb d1 (lv_at hl 0 rfl) ?_
  refine lv_iconst (v := nI k) X.hx X.hb d3 hn ?_
  refine lv_iadd X.hx X.hb d4 ?_
  rw [nI_add]
  refine va_sld X.hx X.hb hX hb hbA hS (vp_in_nI hk (by omega)) d5 ?_
  rw [nI_clamp (by omega)]
  exact kk
theorem r_scr0 (C : LC G A p s m meth c b L xs) (hS : va_S A s.heap H locs) {j x y z : Nat} (hl : lv_has ls 7 [(4, .int (nI (6 * j))), (3, .ref z), (2, .ref y), (1, .ref x), (0, .ref b)]) (hk : 6 * j < L) (d0 : decode cL_law pc = .ok (.aload_n 0, 1)) (d1 : decode cL_law (pc + 1) = .ok (.iload 4, 2)) (d3 : decode cL_law (pc + 3) = .ok (.iaload, 1))
    (kk : W p l e room_1 s m #[Value.ref b] below meth c H locs cells slots Q (F0 m (pc + 4) ls (.int (xs (6 * j)) :: rest))) : W p l e room_1 s m #[Value.ref b] below meth c H locs cells slots Q (F0 m pc ls rest) := by
  obtain ⟨X, hX, hb, hbA, hA, hL⟩ := C
  refine lv_aload_n X.hx X.hb d0 rfl (lv_at hl 4 rfl) ?_
  refine lv_iload X.hx X.hb d1 (lv_at hl 0 rfl) ?_
  refine va_sld X.hx X.hb hX hb hbA hS (vp_in_nI hk (by omega)) d3 ?_
  rw [nI_clamp (by omega)]
  exact kk
end LX
