/-! PURE: base rows -/
theorem q_ck {α : Type} {a n : Nat} {k : Option α} (h : a < n) (hn : n ≤ 2000) : ck (nI a) n k = k := by
  unfold ck; exact if_neg (vp_in_nI h (by omega))
theorem q_bd {α β : Type} {a : α} {k : α → Option β} : bd (some a) k = k a := rfl
theorem q_nv {α β : Type} {a : α} {k : α → Option β} : nv a k = k a := rfl
theorem q_jn {σ β : Type} {k : σ → Option β} {b : (σ → Option β) → Option β} : jn k b = b k := rfl
theorem L2 : (2 : Int32) = nI 2 := rfl
theorem L3 : (3 : Int32) = nI 3 := rfl
theorem L4 : (4 : Int32) = nI 4 := rfl
theorem L5 : (5 : Int32) = nI 5 := rfl
theorem L6 : (6 : Int32) = nI 6 := rfl
theorem L7 : (7 : Int32) = nI 7 := rfl
theorem L8 : (8 : Int32) = nI 8 := rfl
theorem L9 : (9 : Int32) = nI 9 := rfl
theorem L10 : (10 : Int32) = nI 10 := rfl
theorem L11 : (11 : Int32) = nI 11 := rfl
theorem L12 : (12 : Int32) = nI 12 := rfl
theorem L13 : (13 : Int32) = nI 13 := rfl
theorem L14 : (14 : Int32) = nI 14 := rfl
theorem L15 : (15 : Int32) = nI 15 := rfl
theorem L16 : (16 : Int32) = nI 16 := rfl
theorem L17 : (17 : Int32) = nI 17 := rfl
theorem L18 : (18 : Int32) = nI 18 := rfl
theorem L19 : (19 : Int32) = nI 19 := rfl
theorem L20 : (20 : Int32) = nI 20 := rfl
theorem L21 : (21 : Int32) = nI 21 := rfl
theorem L22 : (22 : Int32) = nI 22 := rfl
theorem L23 : (23 : Int32) = nI 23 := rfl
theorem L24 : (24 : Int32) = nI 24 := rfl
theorem L30 : (30 : Int32) = nI 30 := rfl
theorem L35 : (35 : Int32) = nI 35 := rfl
theorem L40 : (40 : Int32) = nI 40 := rfl
theorem L41 : (41 : Int32) = nI 41 := rfl
theorem L47 : (47 : Int32) = nI 47 := rfl
theorem L48 : (48 : Int32) = nI 48 := rfl
theorem L56 : (56 : Int32) = nI 56 := rfl
theorem L57 : (57 : Int32) = nI 57 := rfl
theorem L59 : (59 : Int32) = nI 59 := rfl
theorem L60 : (60 : Int32) = nI 60 := rfl
theorem L61 : (61 : Int32) = nI 61 := rfl
theorem L62 : (62 : Int32) = nI 62 := rfl
theorem L80 : (80 : Int32) = nI 80 := rfl
theorem L82 : (82 : Int32) = nI 82 := rfl
theorem L96 : (96 : Int32) = nI 96 := rfl
theorem L97 : (97 : Int32) = nI 97 := rfl
theorem L117 : (117 : Int32) = nI 117 := rfl
theorem L122 : (122 : Int32) = nI 122 := rfl
theorem L124 : (124 : Int32) = nI 124 := rfl
theorem L131 : (131 : Int32) = nI 131 := rfl
theorem L136 : (136 : Int32) = nI 136 := rfl
theorem L143 : (143 : Int32) = nI 143 := rfl
theorem L145 : (145 : Int32) = nI 145 := rfl
theorem L178 : (178 : Int32) = nI 178 := rfl
theorem L200 : (200 : Int32) = nI 200 := rfl
theorem L213 : (213 : Int32) = nI 213 := rfl
theorem L220 : (220 : Int32) = nI 220 := rfl
theorem L224 : (224 : Int32) = nI 224 := rfl
theorem L227 : (227 : Int32) = nI 227 := rfl
theorem L256 : (256 : Int32) = nI 256 := rfl
theorem L277 : (277 : Int32) = nI 277 := rfl
theorem L400 : (400 : Int32) = nI 400 := rfl
theorem L457 : (457 : Int32) = nI 457 := rfl
theorem L900 : (900 : Int32) = nI 900 := rfl
theorem L920 : (920 : Int32) = nI 920 := rfl
theorem L940 : (940 : Int32) = nI 940 := rfl
theorem L999 : (999 : Int32) = nI 999 := rfl
theorem L1015 : (1015 : Int32) = nI 1015 := rfl
theorem L9999 : (9999 : Int32) = nI 9999 := rfl
theorem L1000000 : (1000000 : Int32) = nI 1000000 := rfl
theorem q_ix {n : Nat} (h : n < 2147483648) : (nI n).toNatClampNeg = n := nI_clamp h
theorem q_eq {a b : Nat} (ha : a < 2147483648) (hb : b < 2147483648) : (nI a = nI b) = (a = b) := propext (nI_eq ha hb)
theorem q_le {a b : Nat} (ha : a < 2147483648) (hb : b < 2147483648) : (nI a ≤ nI b) = (a ≤ b) := propext (nI_leI ha hb)
theorem q_lt {a b : Nat} (ha : a < 2147483648) (hb : b < 2147483648) : (nI a < nI b) = (a < b) := propext (nI_ltI ha hb)
/-- a truth as an int -/
def bI (b : Bool) : Int32 := if b then 1 else 0
theorem q_b0 {α : Type} {b : Bool} {x y : α} : (if bI b = 0 then x else y) = if b then y else x := by cases b <;> simp [bI]
theorem q_zb {α : Type} {b : Bool} {k : Option α} : zb (bI b) k = k := by cases b <;> simp [bI, zb]
theorem q_z0 {α : Type} {k : Option α} : zb 0 k = k := by simp [zb]
theorem q_z1 {α : Type} {k : Option α} : zb 1 k = k := by simp [zb]
theorem q_us (f : Nat → Int32) (k : Nat) (x : Int32) (j : Nat) : upd f k x j = if j = k then x else f j := rfl
theorem q_vs {α : Type} (f : Nat → α) (k : Nat) (x : α) (j : Nat) : va_up f k x j = if j = k then x else f j := rfl
theorem q_ve {α : Type} (f : Nat → α) (k : Nat) (x : α) : va_up f k x k = x := by simp [va_up]
theorem q_vn {α : Type} (f : Nat → α) {k j : Nat} (x : α) (h : j ≠ k) : va_up f k x j = f j := by simp [va_up, h]
theorem q_vid {α : Type} (f : Nat → α) (k : Nat) : va_up f k (f k) = f := by
  funext j; unfold va_up; split
  · rename_i h; rw [h]
  · rfl
theorem q_vv {α : Type} (f : Nat → α) (k : Nat) (v w : α) : va_up (va_up f k v) k w = va_up f k w := bx_uu f k v w
theorem q_vc {α : Type} (f : Nat → α) {k j : Nat} (v w : α) (h : k ≠ j) : va_up (va_up f k v) j w = va_up (va_up f j w) k v := by
  funext x; unfold va_up
  by_cases h1 : x = k
  · subst h1; simp [h]
  · simp [h1]
/-! loops by a counter that goes up -/
theorem q_loop {σ β : Type} (L : Nat → σ → Int32 → Option β) (K : σ → Option β) (n : Nat) (Φ : Nat → σ → Prop)
    (h0 : ∀ k x, Φ n x → L (k + 1) x (nI n) = K x) (h1 : ∀ k i x, i < n → Φ i x → ∃ y, Φ (i + 1) y ∧ L (k + 1) x (nI i) = L k y (nI (i + 1))) :
    ∀ j i x k, i + j = n → j < k → Φ i x → ∃ y, Φ n y ∧ L k x (nI i) = K y := by
  intro j
  induction j with
  | zero =>
    intro i x k h hk hx
    obtain ⟨k, rfl⟩ : ∃ m, k = m + 1 := ⟨k - 1, by omega⟩
    have : i = n := by omega
    subst this
    exact ⟨x, hx, h0 k x hx⟩
  | succ j ih =>
    intro i x k h hk hx
    obtain ⟨k, rfl⟩ : ∃ m, k = m + 1 := ⟨k - 1, by omega⟩
    obtain ⟨y, hy, e⟩ := h1 k i x (by omega) hx
    obtain ⟨z, hz, e2⟩ := ih (i + 1) y k (by omega) (by omega) hy
    exact ⟨z, hz, e.trans e2⟩
theorem q_loop0 {σ β : Type} (L : Nat → σ → Int32 → Option β) (K : σ → Option β) (n N : Nat) (hN : n < N) (Φ : Nat → σ → Prop) (x : σ) (hx : Φ 0 x)
    (h0 : ∀ k x, Φ n x → L (k + 1) x (nI n) = K x) (h1 : ∀ k i x, i < n → Φ i x → ∃ y, Φ (i + 1) y ∧ L (k + 1) x (nI i) = L k y (nI (i + 1))) :
    ∃ y, Φ n y ∧ L N x 0 = K y := q_loop L K n Φ h0 h1 n 0 x N (by omega) hN hx
/-- the same, the state after i rounds written out -/
theorem q_loopF {σ β : Type} (L : Nat → σ → Int32 → Option β) (K : σ → Option β) (n N : Nat) (hN : n < N) (F : Nat → σ) (x : σ) (hx : x = F 0)
    (h0 : ∀ k, L (k + 1) (F n) (nI n) = K (F n)) (h1 : ∀ k i, i < n → L (k + 1) (F i) (nI i) = L k (F (i + 1)) (nI (i + 1))) :
    L N x 0 = K (F n) := by
  obtain ⟨y, hy, e⟩ := q_loop0 L K n N hN (fun i x => x = F i) x hx (fun k x h => by rw [h]; exact h0 k) (fun k i x hi h => ⟨F (i + 1), rfl, by rw [h]; exact h1 k i hi⟩)
  rw [e, hy]
/-! bits -/
def tb (x : Int32) (i : Nat) : Bool := x.toBitVec.getLsbD i
theorem tb_ext {x y : Int32} (h : ∀ i, i < 32 → tb x i = tb y i) : x = y := Int32.toBitVec_inj.mp (BitVec.eq_of_getLsbD_eq (fun i hi => h i hi))
theorem tb_or (x y : Int32) (i : Nat) : tb (x ||| y) i = (tb x i || tb y i) := by unfold tb; rw [Int32.toBitVec_or, BitVec.getLsbD_or]
theorem tb_and (x y : Int32) (i : Nat) : tb (x &&& y) i = (tb x i && tb y i) := by unfold tb; rw [Int32.toBitVec_and, BitVec.getLsbD_and]
theorem tb_xor (x y : Int32) (i : Nat) : tb (x ^^^ y) i = (tb x i ^^ tb y i) := by unfold tb; rw [Int32.toBitVec_xor, BitVec.getLsbD_xor]
theorem tb_big {x : Int32} {i : Nat} (h : 32 ≤ i) : tb x i = false := BitVec.getLsbD_of_ge _ _ h
theorem tb_m1 : ∀ i, i < 32 → tb (-1) i = true := by decide +kernel
theorem tb_0 (i : Nat) : tb 0 i = false := BitVec.getLsbD_zero
theorem tb_sl : ∀ n, n < 32 → ((nI n &&& 31).toBitVec.smod 32).toNat = n := by decide +kernel
theorem tb_su : ∀ n, n < 32 → (((nI n).toUInt32 &&& Int32.toUInt32 31).toBitVec % 32).toNat = n := by decide +kernel
theorem tb_not (x : Int32) {i : Nat} (h : i < 32) : tb (x ^^^ (-1)) i = !tb x i := by rw [tb_xor, tb_m1 i h, Bool.xor_true]
/-- one bit alone -/
def pb (a : Nat) : Int32 := (1 : Int32) <<< (nI a &&& 31)
theorem tb_pb : ∀ a, a < 31 → ∀ k, k < 32 → tb (pb a) k = decide (k = a) := by decide +kernel
/-- the first P bits -/
def ev (P : Nat) : Int32 := pb P - 1
theorem tb_ev : ∀ P, P < 8 → ∀ k, k < 32 → tb (ev P) k = decide (k < P) := by decide +kernel
theorem q_and1 (y : Int32) : y &&& 1 = bI (tb y 0) := by
  have h := pk_and y (m := 1) 1 (by decide)
  rw [h]
  have e : tb y 0 = decide (y.toBitVec.toNat % 2 = 1) := by
    show y.toBitVec.toNat.testBit 0 = _
    rw [Nat.testBit_zero]
  rw [e]
  rcases Nat.mod_two_eq_zero_or_one y.toBitVec.toNat with e2 | e2
  · rw [show 2 ^ 1 = 2 from rfl, e2]; rfl
  · rw [show 2 ^ 1 = 2 from rfl, e2]; rfl
theorem q_usb (x : Int32) {k : Nat} (h : k < 31) : (us x (nI k)) &&& 1 = bI (tb x k) := by
  rw [q_and1]
  have e : tb (us x (nI k)) 0 = tb x k := by
    show (x.toUInt32 >>> ((nI k).toUInt32 &&& Int32.toUInt32 31)).toBitVec.getLsbD 0 = x.toUInt32.toBitVec.getLsbD k
    rw [UInt32.toBitVec_shiftRight]
    show (x.toUInt32.toBitVec >>> (((nI k).toUInt32 &&& Int32.toUInt32 31).toBitVec % 32).toNat).getLsbD 0 = _
    rw [tb_su k (by omega), BitVec.getLsbD_ushiftRight, Nat.add_zero]
  rw [e]
theorem q_srb (x : Int32) {k : Nat} (h : k < 31) : (x >>> (nI k &&& 31)) &&& 1 = bI (tb x k) := by
  rw [q_and1]
  have e : tb (x >>> (nI k &&& 31)) 0 = tb x k := by
    unfold tb
    rw [Int32.toBitVec_shiftRight]
    show (x.toBitVec.sshiftRight ((nI k &&& 31).toBitVec.smod 32).toNat).getLsbD 0 = _
    rw [tb_sl k (by omega), BitVec.getLsbD_sshiftRight, BitVec.msb_eq_getLsbD_last]
    simp; omega
  rw [e]
theorem x_has (N : Nat) (x : Int32) {k : Nat} (hk : k < 31) : f_X10_has N x (nI k) = some (bI (tb x k)) := by
  unfold f_X10_has
  rw [q_usb x hk, q_b0]
  cases tb x k <;> rfl
theorem y_bitOf (N : Nat) (x : Int32) {k : Nat} (hk : k < 31) : f_X11_bitOf N x (nI k) = some (bI (tb x k)) := by
  unfold f_X11_bitOf
  rw [q_srb x hk]
  cases tb x k <;> simp [bI]
/-! how many bits, of sets of seven -/
def sm (x : Int32) : Prop := ∃ n, n < 128 ∧ x = nI n
def pc (x : Int32) : Nat := (if tb x 0 then 1 else 0) + (if tb x 1 then 1 else 0) + (if tb x 2 then 1 else 0) + (if tb x 3 then 1 else 0) + (if tb x 4 then 1 else 0) + (if tb x 5 then 1 else 0) + (if tb x 6 then 1 else 0)
theorem sm_of {x : Int32} (h : ∀ k, k < 32 → tb x k = true → k < 7) : sm x := by
  refine ⟨x.toBitVec.toNat, ?_, ?_⟩
  · refine Nat.lt_of_not_le (fun hc => ?_)
    obtain ⟨k, hk, hb⟩ := Nat.exists_ge_and_testBit_of_ge_two_pow (n := 7) hc
    have hk32 : k < 32 := by
      refine Nat.lt_of_not_le (fun h32 => ?_)
      have : tb x k = false := tb_big h32
      have h2 : tb x k = true := hb
      rw [this] at h2; cases h2
    have := h k hk32 hb
    omega
  · refine tb_ext (fun i hi => ?_)
    show x.toBitVec.getLsbD i = (BitVec.ofNat 32 x.toBitVec.toNat).getLsbD i
    rw [BitVec.ofNat_toNat, BitVec.setWidth_eq]
theorem sm_tb {x : Int32} (h : sm x) {k : Nat} (hk : 7 ≤ k) : tb x k = false := by
  obtain ⟨n, hn, rfl⟩ := h
  rcases Nat.lt_or_ge k 32 with h2 | h2
  · exact (by decide +kernel : ∀ n, n < 128 → ∀ k, k < 32 → 7 ≤ k → tb (nI n) k = false) n hn k h2 hk
  · exact tb_big h2
theorem sm_ext {x y : Int32} (hx : sm x) (hy : sm y) (h : ∀ i, i < 7 → tb x i = tb y i) : x = y := by
  refine tb_ext (fun i _ => ?_)
  rcases Nat.lt_or_ge i 7 with h2 | h2
  · exact h i h2
  · rw [sm_tb hx h2, sm_tb hy h2]
theorem x_bc (N : Nat) {x : Int32} (h : sm x) : f_J6_bitCount_0f7a4 N x = some (nI (pc x)) := by
  obtain ⟨n, hn, rfl⟩ := h
  have : ∀ n, n < 128 → (f_J6_bitCount_0f7a4 0 (nI n) = some (nI (pc (nI n)))) := by decide +kernel
  exact this n hn
theorem y_bits {N : Nat} (hN : 10 ≤ N) {x : Int32} (h : sm x) : f_X11_bits N x = some (nI (pc x)) := by
  obtain ⟨n, hn, rfl⟩ := h
  have h8 : ∀ n, n < 128 → f_X11_bits_4 0 8 0 (nI n) = some (nI (pc (nI n))) := by decide +kernel
  have mono : ∀ (j k : Nat) (a b r : Int32), f_X11_bits_4 0 j a b = some r → f_X11_bits_4 N (j + k) a b = some r := by
    intro j
    induction j with
    | zero => intro k a b r h; cases h
    | succ j ih =>
      intro k a b r h
      rw [show j + 1 + k = (j + k) + 1 by omega]
      unfold f_X11_bits_4 at h ⊢
      split at h
      · rename_i c; rw [if_pos c]; exact h
      · rename_i c; rw [if_neg c]; exact ih k _ _ _ h
  unfold f_X11_bits
  have := mono 8 (N - 8) 0 (nI n) _ (h8 n hn)
  rwa [show 8 + (N - 8) = N by omega] at this
theorem pc_le (x : Int32) : pc x ≤ 7 := by
  unfold pc
  repeat' split
  all_goals omega
theorem pc_part (x y : Int32) : pc (x &&& y) + pc (x &&& (y ^^^ (-1))) = pc x := by
  unfold pc
  simp only [tb_and, tb_not _ (show 0 < 32 by omega), tb_not _ (show 1 < 32 by omega), tb_not _ (show 2 < 32 by omega), tb_not _ (show 3 < 32 by omega), tb_not _ (show 4 < 32 by omega), tb_not _ (show 5 < 32 by omega), tb_not _ (show 6 < 32 by omega)]
  have h : ∀ a b : Bool, (if (a && b) = true then 1 else 0) + (if (a && !b) = true then 1 else 0) = (if a = true then 1 else 0 : Nat) := by decide
  have h0 := h (tb x 0) (tb y 0)
  have h1 := h (tb x 1) (tb y 1)
  have h2 := h (tb x 2) (tb y 2)
  have h3 := h (tb x 3) (tb y 3)
  have h4 := h (tb x 4) (tb y 4)
  have h5 := h (tb x 5) (tb y 5)
  have h6 := h (tb x 6) (tb y 6)
  omega
