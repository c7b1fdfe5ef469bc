/-! PURE: the relation between class and reference that every call keeps -/
def REL (aU : Nat → Nat → Nat) (iX : Nat → Int32) (sT : Nat → Nat → Int32) (iT : Nat → Int32) (jT : Nat → Int64) (iC : Nat → Int32) (tC : Nat → Nat → Int64) (sC : Nat → Nat → Int32) (iR : Nat → Int32) (iC2 : Nat → Int32) (tC2 : Nat → Nat → Int64) (sC2 : Nat → Nat → Int32) (iM : Nat → Int32) (sM : Nat → Nat → Int32) (iM2 : Nat → Int32) (sM2 : Nat → Nat → Int32) (iU : Nat → Nat → Int32) (sU : Nat → Nat → Nat → Int32) (iE : Nat → Int32) (sE : Nat → Nat → Int32) (sP : Nat → Nat → Int32) (iP : Nat → Int32) (sB : Nat → Nat → Int32) (iB : Nat → Int32) (iS : Nat → Int32) (sS : Nat → Nat → Int32) (iS2 : Nat → Int32) (sS2 : Nat → Nat → Int32) (iI : Nat → Int32) (iC3 : Nat → Int32) (tC3 : Nat → Nat → Int64) (sC3 : Nat → Nat → Int32) (iM3 : Nat → Int32) (sM3 : Nat → Nat → Int32) (iS3 : Nat → Int32) (sS3 : Nat → Nat → Int32) (iI2 : Nat → Int32) (iC4 : Nat → Int32) (tC4 : Nat → Nat → Int64) (sC4 : Nat → Nat → Int32) (iM4 : Nat → Int32) (sM4 : Nat → Nat → Int32) (iS4 : Nat → Int32) (sS4 : Nat → Nat → Int32) (iY : Nat → Int32) (sY : Nat → Nat → Int32) (tY : Nat → Nat → Int64) (jY : Nat → Int64) : Prop := ∃ P Q L n : Nat,
  CP (sY 6) iC sC ∧ MP (sY 6) iM sM ∧ IL (sY 6) P Q ∧ ID (sY 6) P Q ∧ NM (tC 2) (tY 9) 0 P Q ∧ SP (sY 6) iS sS P Q ∧
  L ≤ 940 ∧ iT 1 = nI L ∧ iY 2 = nI L ∧ (∀ k, k < 940 → sT 0 k = sY 1 k &&& 255) ∧ iT 11 = iY 15 ∧
  iX 6 = nI n ∧ iY 23 = nI n ∧ RK (sY 6) (sY 21) n iU sU P Q ∧
  AK iE iY ∧ SK iE iY ∧ PK iE iY ∧ CK iE sE iY sY ∧ FK iP sP iY sY ∧
  iB 7 = iY 41 ∧ (¬ iY 41 = 0 → ∀ k, k < 4 → iB (8 + k) = sY 40 k) ∧
  (∀ k, k < 24 → tY 10 k = lN (e256 (wds k))) ∧
  IMG 0 sY tY iI iC3 tC3 sC3 iM3 sM3 iS3 sS3 ∧ IMG 1 sY tY iI2 iC4 tC4 sC4 iM4 sM4 iS4 sS4
def rk (k : Nat) : Bool := k == 2 || k == 15 || k == 23 || k == 27 || k == 28 || k == 29 || k == 30 || k == 33 || k == 34 || k == 35 || k == 37 || k == 41
def sk (k : Nat) : Bool := k == 1 || k == 6 || k == 21 || k == 32 || k == 36 || k == 40 || k == 49 || k == 51
def tk (k : Nat) : Bool := k == 9 || k == 10 || k == 50
theorem rk0 {k : Nat} (h : rk k = true) : k ≠ 0 := fun e => by subst e; cases h
theorem AK.to {iE iE' iY iY' : Nat → Int32} (h : AK iE iY) (e : iE' 2 = iE 2) (a : iY' 27 = iY 27) (b : iY' 28 = iY 28) : AK iE' iY' := by unfold AK; rw [e, a, b]; exact h
theorem SK.to {iE iE' iY iY' : Nat → Int32} (h : SK iE iY) (e : iE' 3 = iE 3) (a : iY' 29 = iY 29) (b : iY' 30 = iY 30) : SK iE' iY' := by unfold SK; rw [e, a, b]; exact h
theorem PK.to {iE iE' iY iY' : Nat → Int32} (h : PK iE iY) (e : iE' 6 = iE 6) (a : iY' 34 = iY 34) (b : iY' 35 = iY 35) : PK iE' iY' := by unfold PK; rw [e, a, b]; exact h
theorem CK.to {iE iE' iY iY' : Nat → Int32} {sE sE' sY sY' : Nat → Nat → Int32} (h : CK iE sE iY sY) (e : iE' 4 = iE 4) (f : sE' 5 = sE 5) (a : iY' 33 = iY 33) (b : sY' 32 = sY 32) : CK iE' sE' iY' sY' := by
  obtain ⟨m, h1, h2, h3, h4⟩ := h
  exact ⟨m, h1, e.trans h2, by rw [a]; exact h3, fun k hk => by rw [f, b]; exact h4 k hk⟩
theorem FK.to {iP iY iY' : Nat → Int32} {sP sY sY' : Nat → Nat → Int32} (h : FK iP sP iY sY) (a : iY' 37 = iY 37) (b : sY' 36 = sY 36) : FK iP sP iY' sY' := by
  obtain ⟨m, h1, h2, h3, h4⟩ := h
  exact ⟨m, h1, h2, a.trans h3, fun k hk => by rw [b]; exact h4 k hk⟩
theorem Bv_to {iB iB' iY iY' : Nat → Int32} {sY sY' : Nat → Nat → Int32} (h : ¬ iY 41 = 0 → ∀ k, k < 4 → iB (8 + k) = sY 40 k) (e : iB' = iB) (a : iY' 41 = iY 41) (b : sY' 40 = sY 40) : ¬ iY' 41 = 0 → ∀ k, k < 4 → iB' (8 + k) = sY' 40 k := by
  rw [e, a, b]; exact h
theorem NM_to {tc ty ty' : Nat → Int64} {P Q : Nat} (h : NM tc ty 0 P Q) (hPQ : P ≤ 7 ∧ Q ≤ 5) (e : ∀ k, k < 12 → ty' k = ty k) : NM tc ty' 0 P Q := by
  obtain ⟨h1, h2, h3, h4, h5⟩ := h
  exact ⟨fun k hk => by rw [e _ (by omega)]; exact h1 k hk, h2, fun k hk => by rw [e _ (by omega)]; exact h3 k hk, h4, h5⟩
theorem SP_0 {s : Nat → Int32} {iS : Nat → Int32} {sS : Nat → Nat → Int32} {P Q : Nat} (h : s 276 = 0) (a : iS 0 = 0) (b : iS 1 = 0) : SP s iS sS P Q :=
  ⟨0, 0, Nat.zero_le _, Nat.zero_le _, h, b, a, Iff.rfl, fun k hk => absurd hk (Nat.not_lt_zero _), fun k hk => absurd hk (Nat.not_lt_zero _), fun h => absurd rfl h⟩
theorem SP.sc {s : Nat → Int32} {iS : Nat → Int32} {sS : Nat → Nat → Int32} {P Q : Nat} {g : Nat → Int32} (h : SP s iS sS P Q) : SP s iS (va_up sS 5 g) P Q := h
section
variable {N : Nat} {aU : Nat → Nat → Nat} {iX iT iC iR iC2 iM iM2 iE iP iB iS iS2 iI iC3 iM3 iS3 iI2 iC4 iM4 iS4 iY : Nat → Int32} {sT sC sC2 sM sM2 iU sE sP sB sS sS2 sC3 sM3 sS3 sC4 sM4 sS4 sY : Nat → Nat → Int32} {jT jY : Nat → Int64} {tC tC2 tC3 tC4 tY : Nat → Nat → Int64} {sU : Nat → Nat → Nat → Int32}
theorem REL.fr {iY' : Nat → Int32} {sY' : Nat → Nat → Int32} {tY' : Nat → Nat → Int64} {jY' : Nat → Int64} (h : REL aU iX sT iT jT iC tC sC iR iC2 tC2 sC2 iM sM iM2 sM2 iU sU iE sE sP iP sB iB iS sS iS2 sS2 iI iC3 tC3 sC3 iM3 sM3 iS3 sS3 iI2 iC4 tC4 sC4 iM4 sM4 iS4 sS4 iY sY tY jY) (f1 : ∀ k, rk k = true → iY' k = iY k) (g1 : ∀ k, sk k = true → sY' k = sY k) (t1 : ∀ k, tk k = true → tY' k = tY k) : REL aU iX sT iT jT iC tC sC iR iC2 tC2 sC2 iM sM iM2 sM2 iU sU iE sE sP iP sB iB iS sS iS2 sS2 iI iC3 tC3 sC3 iM3 sM3 iS3 sS3 iI2 iC4 tC4 sC4 iM4 sM4 iS4 sS4 iY' sY' tY' jY' := by
  obtain ⟨P, Q, L, n, hC, hM, hL, hI, hNm, hSP, hL9, hT1, hY2, hB, h15, hX, hY, hK, hA, hS, hPk, hCk, hF, hB7, hBv, hR, hI0, hI1⟩ := h
  exact ⟨P, Q, L, n, (by rw [(g1 6 rfl)]; exact hC), (by rw [(g1 6 rfl)]; exact hM), (by rw [(g1 6 rfl)]; exact hL), (by rw [(g1 6 rfl)]; exact hI), (by rw [(t1 9 rfl)]; exact hNm), (by rw [(g1 6 rfl)]; exact hSP), hL9, hT1, (by rw [(f1 2 rfl)]; exact hY2), (fun k hk => by rw [(g1 1 rfl)]; exact hB k hk), (by rw [(f1 15 rfl)]; exact h15), hX, (by rw [(f1 23 rfl)]; exact hY), (by rw [(g1 6 rfl), (g1 21 rfl)]; exact hK), (hA.to rfl (f1 27 rfl) (f1 28 rfl)), (hS.to rfl (f1 29 rfl) (f1 30 rfl)), (hPk.to rfl (f1 34 rfl) (f1 35 rfl)), (hCk.to rfl rfl (f1 33 rfl) (g1 32 rfl)), (hF.to (f1 37 rfl) (g1 36 rfl)), (by rw [(f1 41 rfl)]; exact hB7), (Bv_to hBv rfl (f1 41 rfl) (g1 40 rfl)), (fun k hk => by rw [(t1 10 rfl)]; exact hR k hk), (hI0.to (congrFun (g1 51 rfl) _) (fun _ _ => congrFun (g1 49 rfl) _) (fun _ _ => congrFun (t1 50 rfl) _)), (hI1.to (congrFun (g1 51 rfl) _) (fun _ _ => congrFun (g1 49 rfl) _) (fun _ _ => congrFun (t1 50 rfl) _))⟩
end
