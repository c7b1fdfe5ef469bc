/-! PURE: sentences, what reading one and reading a condition give -/
abbrev YK : Type := Option (Int32 × (Nat → Int32) × (Nat → Nat → Int32) × (Nat → Int64))
abbrev YZ : Type := (Nat → Int32) × (Nat → Nat → Int32) × (Nat → Int64)
abbrev RX : Type := Option (Int32 × (Nat → Int32) × (Nat → Int64) × (Nat → Int32) × (Nat → Nat → Int32))
def KSf (z : YZ) : YK := match z with | (iY_27, sY_28, jY_29) => some (((-1 : Int32) - (iY_27 16)), iY_27, sY_28, jY_29)
def KSb (N : Nat) (tY : Nat → Nat → Int64) (z : YZ) : YK := match z with | (iY_39, sY_40, jY_41) => bd (f_X11_bad N iY_39 sY_40 tY jY_41 1) (fun (r_42, iY_43) => some (((-1 : Int32) - (iY_43 16)), iY_43, sY_40, jY_41))
def LoP (N : Nat) (tY : Nat → Nat → Int64) (K6 : YZ → YK) (k : Nat) (iY : Nat → Int32) (sY : Nat → Nat → Int32) (jY : Nat → Int64) : YK := f_X11_sentence_48 N tY (KSb N tY) KSf KSf K6 k iY sY jY 1
def SR (P Q m n o h e : Nat) (iS : Nat → Int32) (sS : Nat → Nat → Int32) (iY : Nat → Int32) (sY : Nat → Nat → Int32) : Prop :=
  (iS 0 = nI o) ∧ (iS 1 = nI (m + n)) ∧ (iY 44 = nI o) ∧ (iY 43 = nI m) ∧ (iY 45 = nI (h + n)) ∧ (iY 46 = nI (e + n)) ∧ (CR P Q m sS (sY 8)) ∧ (∀ k, k < n → sS 2 (m + k) = 15) ∧ (∀ k, k < n → sY 42 (h + k) = 20)
theorem SR.s0 {P Q m n o h e : Nat} {iS : Nat → Int32} {sS : Nat → Nat → Int32} {iY : Nat → Int32} {sY : Nat → Nat → Int32} (hx : SR P Q m n o h e iS sS iY sY) : iS 0 = nI o := hx.1
theorem SR.s1 {P Q m n o h e : Nat} {iS : Nat → Int32} {sS : Nat → Nat → Int32} {iY : Nat → Int32} {sY : Nat → Nat → Int32} (hx : SR P Q m n o h e iS sS iY sY) : iS 1 = nI (m + n) := hx.2.1
theorem SR.y44 {P Q m n o h e : Nat} {iS : Nat → Int32} {sS : Nat → Nat → Int32} {iY : Nat → Int32} {sY : Nat → Nat → Int32} (hx : SR P Q m n o h e iS sS iY sY) : iY 44 = nI o := hx.2.2.1
theorem SR.y43 {P Q m n o h e : Nat} {iS : Nat → Int32} {sS : Nat → Nat → Int32} {iY : Nat → Int32} {sY : Nat → Nat → Int32} (hx : SR P Q m n o h e iS sS iY sY) : iY 43 = nI m := hx.2.2.2.1
theorem SR.y45 {P Q m n o h e : Nat} {iS : Nat → Int32} {sS : Nat → Nat → Int32} {iY : Nat → Int32} {sY : Nat → Nat → Int32} (hx : SR P Q m n o h e iS sS iY sY) : iY 45 = nI (h + n) := hx.2.2.2.2.1
theorem SR.y46 {P Q m n o h e : Nat} {iS : Nat → Int32} {sS : Nat → Nat → Int32} {iY : Nat → Int32} {sY : Nat → Nat → Int32} (hx : SR P Q m n o h e iS sS iY sY) : iY 46 = nI (e + n) := hx.2.2.2.2.2.1
theorem SR.cr {P Q m n o h e : Nat} {iS : Nat → Int32} {sS : Nat → Nat → Int32} {iY : Nat → Int32} {sY : Nat → Nat → Int32} (hx : SR P Q m n o h e iS sS iY sY) : CR P Q m sS (sY 8) := hx.2.2.2.2.2.2.1
theorem SR.nn {P Q m n o h e : Nat} {iS : Nat → Int32} {sS : Nat → Nat → Int32} {iY : Nat → Int32} {sY : Nat → Nat → Int32} (hx : SR P Q m n o h e iS sS iY sY) : ∀ k, k < n → sS 2 (m + k) = 15 := hx.2.2.2.2.2.2.2.1
theorem SR.st {P Q m n o h e : Nat} {iS : Nat → Int32} {sS : Nat → Nat → Int32} {iY : Nat → Int32} {sY : Nat → Nat → Int32} (hx : SR P Q m n o h e iS sS iY sY) : ∀ k, k < n → sY 42 (h + k) = 20 := hx.2.2.2.2.2.2.2.2
def QF (N : Nat) (tY : Nat → Nat → Int64) (K6 : YZ → YK) (st : Nat) (iY : Nat → Int32) (sY : Nat → Nat → Int32) (jY : Nat → Int64) (fx : RX) : Prop :=
  ∃ j iT' jT' iS' sS' iY' sY' jY', fx = some (0, iT', jT', iS', sS') ∧ j + st ≤ 945 ∧ (∀ k, LoP N tY K6 (k + j) iY sY jY = some (-1 - iY' 16, iY', sY', jY')) ∧ FT iT' iY' ∧ GF iY iY' ∧ (∀ k, k ≠ 8 → k ≠ 42 → sY' k = sY k)
def FR (h : Nat) (iT iT' iY iY' : Nat → Int32) (sY sY' : Nat → Nat → Int32) : Prop :=
  (iT' 11 = iT 11) ∧ (iY' 15 = iY 15) ∧ (GF iY iY') ∧ (∀ k, k ≠ 8 → k ≠ 42 → sY' k = sY k) ∧ (∀ k, k < h → sY' 42 k = sY 42 k)
theorem FR.t {h : Nat} {iT iT' iY iY' : Nat → Int32} {sY sY' : Nat → Nat → Int32} (hx : FR h iT iT' iY iY' sY sY') : iT' 11 = iT 11 := hx.1
theorem FR.y {h : Nat} {iT iT' iY iY' : Nat → Int32} {sY sY' : Nat → Nat → Int32} (hx : FR h iT iT' iY iY' sY sY') : iY' 15 = iY 15 := hx.2.1
theorem FR.g {h : Nat} {iT iT' iY iY' : Nat → Int32} {sY sY' : Nat → Nat → Int32} (hx : FR h iT iT' iY iY' sY sY') : GF iY iY' := hx.2.2.1
theorem FR.f {h : Nat} {iT iT' iY iY' : Nat → Int32} {sY sY' : Nat → Nat → Int32} (hx : FR h iT iT' iY iY' sY sY') : ∀ k, k ≠ 8 → k ≠ 42 → sY' k = sY k := hx.2.2.2.1
theorem FR.s {h : Nat} {iT iT' iY iY' : Nat → Int32} {sY sY' : Nat → Nat → Int32} (hx : FR h iT iT' iY iY' sY sY') : ∀ k, k < h → sY' 42 k = sY 42 k := hx.2.2.2.2
def QO (N : Nat) (tY : Nat → Nat → Int64) (K6 : YZ → YK) (P Q L lim st m o h e : Nat) (iT : Nat → Int32) (sS : Nat → Nat → Int32) (iY : Nat → Int32) (sY : Nat → Nat → Int32) (jY : Nat → Int64) (fx : RX) : Prop :=
  ∃ j iT' jT' iS' sS' iY' sY' jY' m' n o' st', fx = some (1, iT', jT', iS', sS') ∧ j + st ≤ st' ∧ (∀ k, LoP N tY K6 (k + j) iY sY jY = LoP N tY K6 k iY' sY' jY') ∧ TR L lim st' iT' jT' iY' jY' ∧ iY' 47 = 1 ∧ SR P Q m' n o' h e iS' sS' iY' sY' ∧ HO (sS' 2) (m' + n) ∧ hgt (sS' 2) (m' + n) = hgt (sS 2) m + 1 ∧ o < o' ∧ o' ≤ 20 ∧ m' + n + 2 * o + 1 ≤ m + 2 * o' ∧ e + n ≤ 9 ∧ FR h iT iT' iY iY' sY sY'
def QC (N : Nat) (tY : Nat → Nat → Int64) (K6 : YZ → YK) (P Q L lim st m o h e : Nat) (iT : Nat → Int32) (sS : Nat → Nat → Int32) (iY : Nat → Int32) (sY : Nat → Nat → Int32) (jY : Nat → Int64) (fx : RX) : Prop :=
  ∃ j iT' jT' iS' sS' iY' sY' jY' iY2 sY2 iY3 sY3 m' o' st', fx = some (1, iT', jT', iS', sS') ∧ j + st ≤ st' ∧ (∀ k, LoP N tY K6 (k + j) iY sY jY = LoP N tY K6 k iY' sY' jY') ∧ TR L lim st' iT' jT' iY' jY' ∧ iY' 47 = 1 ∧ ¬ iT' 7 = nI 13 ∧ ¬ iT' 7 = nI 14 ∧ f_X11_nots N iY' sY' tY jY' = some (iY2, sY2) ∧ f_X11_joins N iY2 sY2 tY jY' 22 = some (iY3, sY3) ∧ (∀ k, k ≠ 43 → k ≠ 45 → k ≠ 46 → iY2 k = iY' k) ∧ (∀ k, k ≠ 43 → k ≠ 45 → k ≠ 46 → iY3 k = iY' k) ∧ SR P Q m' 0 o' h e iS' sS' iY3 sY3 ∧ HO (sS' 2) m' ∧ hgt (sS' 2) m' = hgt (sS 2) m + 1 ∧ o < o' ∧ o' ≤ 20 ∧ m' + 2 * o + 1 ≤ m + 2 * o' ∧ FR h iT iT' iY iY3 sY sY3
def PO (P Q L lim st m o h e : Nat) (sT : Nat → Nat → Int32) (iT : Nat → Int32) (jT : Nat → Int64) (iS : Nat → Int32) (sS : Nat → Nat → Int32) (iY : Nat → Int32) (sY : Nat → Nat → Int32) (jY : Nat → Int64) : Prop :=
  (∀ k, k < 940 → sT 0 k = sY 1 k &&& 255) ∧ (IL (sY 6) P Q) ∧ (TR L lim st iT jT iY jY) ∧ (iY 47 = 0) ∧ (SR P Q m 0 o h e iS sS iY sY) ∧ (HO (sS 2) m) ∧ (hgt (sS 2) m ≤ o) ∧ (o ≤ 20) ∧ (m ≤ 2 * o) ∧ (1 ≤ e) ∧ (e ≤ 9)
theorem PO.hB {P Q L lim st m o h e : Nat} {sT : Nat → Nat → Int32} {iT : Nat → Int32} {jT : Nat → Int64} {iS : Nat → Int32} {sS : Nat → Nat → Int32} {iY : Nat → Int32} {sY : Nat → Nat → Int32} {jY : Nat → Int64} (hx : PO P Q L lim st m o h e sT iT jT iS sS iY sY jY) : ∀ k, k < 940 → sT 0 k = sY 1 k &&& 255 := hx.1
theorem PO.hL {P Q L lim st m o h e : Nat} {sT : Nat → Nat → Int32} {iT : Nat → Int32} {jT : Nat → Int64} {iS : Nat → Int32} {sS : Nat → Nat → Int32} {iY : Nat → Int32} {sY : Nat → Nat → Int32} {jY : Nat → Int64} (hx : PO P Q L lim st m o h e sT iT jT iS sS iY sY jY) : IL (sY 6) P Q := hx.2.1
theorem PO.tr {P Q L lim st m o h e : Nat} {sT : Nat → Nat → Int32} {iT : Nat → Int32} {jT : Nat → Int64} {iS : Nat → Int32} {sS : Nat → Nat → Int32} {iY : Nat → Int32} {sY : Nat → Nat → Int32} {jY : Nat → Int64} (hx : PO P Q L lim st m o h e sT iT jT iS sS iY sY jY) : TR L lim st iT jT iY jY := hx.2.2.1
theorem PO.y47 {P Q L lim st m o h e : Nat} {sT : Nat → Nat → Int32} {iT : Nat → Int32} {jT : Nat → Int64} {iS : Nat → Int32} {sS : Nat → Nat → Int32} {iY : Nat → Int32} {sY : Nat → Nat → Int32} {jY : Nat → Int64} (hx : PO P Q L lim st m o h e sT iT jT iS sS iY sY jY) : iY 47 = 0 := hx.2.2.2.1
theorem PO.sr {P Q L lim st m o h e : Nat} {sT : Nat → Nat → Int32} {iT : Nat → Int32} {jT : Nat → Int64} {iS : Nat → Int32} {sS : Nat → Nat → Int32} {iY : Nat → Int32} {sY : Nat → Nat → Int32} {jY : Nat → Int64} (hx : PO P Q L lim st m o h e sT iT jT iS sS iY sY jY) : SR P Q m 0 o h e iS sS iY sY := hx.2.2.2.2.1
theorem PO.ho {P Q L lim st m o h e : Nat} {sT : Nat → Nat → Int32} {iT : Nat → Int32} {jT : Nat → Int64} {iS : Nat → Int32} {sS : Nat → Nat → Int32} {iY : Nat → Int32} {sY : Nat → Nat → Int32} {jY : Nat → Int64} (hx : PO P Q L lim st m o h e sT iT jT iS sS iY sY jY) : HO (sS 2) m := hx.2.2.2.2.2.1
theorem PO.hh {P Q L lim st m o h e : Nat} {sT : Nat → Nat → Int32} {iT : Nat → Int32} {jT : Nat → Int64} {iS : Nat → Int32} {sS : Nat → Nat → Int32} {iY : Nat → Int32} {sY : Nat → Nat → Int32} {jY : Nat → Int64} (hx : PO P Q L lim st m o h e sT iT jT iS sS iY sY jY) : hgt (sS 2) m ≤ o := hx.2.2.2.2.2.2.1
theorem PO.o20 {P Q L lim st m o h e : Nat} {sT : Nat → Nat → Int32} {iT : Nat → Int32} {jT : Nat → Int64} {iS : Nat → Int32} {sS : Nat → Nat → Int32} {iY : Nat → Int32} {sY : Nat → Nat → Int32} {jY : Nat → Int64} (hx : PO P Q L lim st m o h e sT iT jT iS sS iY sY jY) : o ≤ 20 := hx.2.2.2.2.2.2.2.1
theorem PO.m2 {P Q L lim st m o h e : Nat} {sT : Nat → Nat → Int32} {iT : Nat → Int32} {jT : Nat → Int64} {iS : Nat → Int32} {sS : Nat → Nat → Int32} {iY : Nat → Int32} {sY : Nat → Nat → Int32} {jY : Nat → Int64} (hx : PO P Q L lim st m o h e sT iT jT iS sS iY sY jY) : m ≤ 2 * o := hx.2.2.2.2.2.2.2.2.1
theorem PO.e1 {P Q L lim st m o h e : Nat} {sT : Nat → Nat → Int32} {iT : Nat → Int32} {jT : Nat → Int64} {iS : Nat → Int32} {sS : Nat → Nat → Int32} {iY : Nat → Int32} {sY : Nat → Nat → Int32} {jY : Nat → Int64} (hx : PO P Q L lim st m o h e sT iT jT iS sS iY sY jY) : 1 ≤ e := hx.2.2.2.2.2.2.2.2.2.1
theorem PO.e9 {P Q L lim st m o h e : Nat} {sT : Nat → Nat → Int32} {iT : Nat → Int32} {jT : Nat → Int64} {iS : Nat → Int32} {sS : Nat → Nat → Int32} {iY : Nat → Int32} {sY : Nat → Nat → Int32} {jY : Nat → Int64} (hx : PO P Q L lim st m o h e sT iT jT iS sS iY sY jY) : e ≤ 9 := hx.2.2.2.2.2.2.2.2.2.2
def OneP (N : Nat) (tY : Nat → Nat → Int64) (K6 : YZ → YK) (P Q L lim : Nat) (sT : Nat → Nat → Int32) (iC : Nat → Int32) (tC : Nat → Nat → Int64) (sC : Nat → Nat → Int32) (e : Nat) (ro : RF) : Prop :=
  ∀ st m o h iT jT iS sS iY sY jY, PO P Q L lim st m o h e sT iT jT iS sS iY sY jY → h + 1 ≤ 3 * e → QF N tY K6 st iY sY jY (ro sT iT jT iC tC sC iS sS (nI e)) ∨ QO N tY K6 P Q L lim st m o h e iT sS iY sY jY (ro sT iT jT iC tC sC iS sS (nI e))
def CondP (N : Nat) (tY : Nat → Nat → Int64) (K6 : YZ → YK) (P Q L lim : Nat) (sT : Nat → Nat → Int32) (iC : Nat → Int32) (tC : Nat → Nat → Int64) (sC : Nat → Nat → Int32) (e : Nat) (rc : RF) : Prop :=
  ∀ st m o h iT jT iS sS iY sY jY, PO P Q L lim st m o h e sT iT jT iS sS iY sY jY → h + 3 ≤ 3 * e → (h = 0 ∨ sY 42 (h - 1) = 23) → QF N tY K6 st iY sY jY (rc sT iT jT iC tC sC iS sS (nI e)) ∨ QC N tY K6 P Q L lim st m o h e iT sS iY sY jY (rc sT iT jT iC tC sC iS sS (nI e))
theorem FR.tr {h h' : Nat} {a b c ya yb yc : Nat → Int32} {sa sb sc : Nat → Nat → Int32} (x : FR h a b ya yb sa sb) (y : FR h' b c yb yc sb sc) (hh : h ≤ h') : FR h a c ya yc sa sc :=
  ⟨y.t.trans x.t, y.y.trans x.y, x.g.tr y.g, fun k k1 k2 => (y.f k k1 k2).trans (x.f k k1 k2), fun k hk => (y.s k (by omega)).trans (x.s k hk)⟩
theorem TR_st {L lim st : Nat} {iT : Nat → Int32} {jT : Nat → Int64} {iY : Nat → Int32} {jY : Nat → Int64} (h : TR L lim st iT jT iY jY) : st ≤ 940 := by
  obtain ⟨⟨hL, -⟩, -, -, a, b, -, hc⟩ := h
  rcases hc with ⟨e, -⟩ | ⟨e, -⟩ <;> omega
section
variable {N : Nat} {tY : Nat → Nat → Int64} {K6 : YZ → YK}
/-- a step of the reference, then fault -/
theorem QF.pre {st st' j : Nat} {iY iY' : Nat → Int32} {sY sY' : Nat → Nat → Int32} {jY jY' : Nat → Int64} {fx : RX} (h : QF N tY K6 st' iY' sY' jY' fx) (hj : j + st ≤ st') (hl : ∀ k, LoP N tY K6 (k + j) iY sY jY = LoP N tY K6 k iY' sY' jY') (hg : GF iY iY') (hf : ∀ k, k ≠ 8 → k ≠ 42 → sY' k = sY k) : ∃ iT1 jT1 iS1 sS1, fx = some (0, iT1, jT1, iS1, sS1) ∧ QF N tY K6 st iY sY jY (some (0, iT1, jT1, iS1, sS1)) := by
  obtain ⟨j2, iT', jT', iS', sS', iY2, sY2, jY2, a1, a2, a3, a4, a5, a6⟩ := h
  refine ⟨iT', jT', iS', sS', a1, j2 + j, iT', jT', iS', sS', iY2, sY2, jY2, rfl, by omega, fun k => ?_, a4, hg.tr a5, fun k k1 k2 => (a6 k k1 k2).trans (hf k k1 k2)⟩
  rw [← Nat.add_assoc, hl, a3]
/-- the loop, at an operand -/
theorem LoP_op {k : Nat} {iY : Nat → Int32} {sY : Nat → Nat → Int32} {jY : Nat → Int64} (h47 : iY 47 = 0) : LoP N tY K6 (k + 1) iY sY jY = bd (f_X11_operand N iY sY tY jY) (fun (r_81, iY_82, sY_83, jY_84) => (if r_81 = 0 then KSf (iY_82, sY_83, jY_84) else LoP N tY K6 k iY_82 sY_83 jY_84)) := by
  unfold LoP
  rw [f_X11_sentence_48, if_neg (show ¬ (1 : Int32) = 0 by decide), q_jn, if_pos h47, if_pos h47]
theorem LoP_be {k : Nat} {iY : Nat → Int32} {sY : Nat → Nat → Int32} {jY : Nat → Int64} (h47 : iY 47 = 1) (h11 : ¬ iY 11 = 0) : LoP N tY K6 (k + 1) iY sY jY = bd (f_X11_behind N iY sY tY jY) (fun (r_81, iY_82, sY_83, jY_84) => (if r_81 = 0 then KSf (iY_82, sY_83, jY_84) else LoP N tY K6 k iY_82 sY_83 jY_84)) := by
  have h0 : ¬ iY 47 = 0 := by rw [h47]; decide
  unfold LoP
  rw [f_X11_sentence_48, if_neg (show ¬ (1 : Int32) = 0 by decide), q_jn, if_neg h0, if_neg h11, if_neg h0]
theorem LoP_end {k : Nat} {iY iY2 iY3 : Nat → Int32} {sY sY2 sY3 : Nat → Nat → Int32} {jY : Nat → Int64} (h47 : iY 47 = 1) (h11 : iY 11 = 0) (e1 : f_X11_nots N iY sY tY jY = some (iY2, sY2)) (e2 : f_X11_joins N iY2 sY2 tY jY 22 = some (iY3, sY3)) : LoP N tY K6 (k + 2) iY sY jY = if iY3 45 ≤ 0 then K6 (iY3, sY3, jY) else KSb N tY (iY3, sY3, jY) := by
  have h0 : ¬ iY 47 = 0 := by rw [h47]; decide
  unfold LoP
  rw [f_X11_sentence_48, if_neg (show ¬ (1 : Int32) = 0 by decide), q_jn, if_neg h0, if_pos h11, e1, q_bd]
  dsimp only
  rw [e2, q_bd]
  dsimp only
  rw [f_X11_sentence_48, if_pos rfl]
end
