/-! PURE: words as numbers on both sides; the tape; faces -/
def e32 : List Nat → Nat
  | [] => 0
  | l :: r => e32 r * 32 + l
def e256 : List Nat → Nat
  | [] => 0
  | l :: r => e256 r * 256 + (96 + l)
def wok (w : List Nat) : Prop := ∀ l ∈ w, 1 ≤ l ∧ l ≤ 26
theorem wok_c {l : Nat} {r : List Nat} (h : wok (l :: r)) : 1 ≤ l ∧ l ≤ 26 ∧ wok r := ⟨(h l List.mem_cons_self).1, (h l List.mem_cons_self).2, fun x hx => h x (List.mem_cons_of_mem _ hx)⟩
theorem wok_k {l : Nat} {r : List Nat} (h1 : 1 ≤ l) (h2 : l ≤ 26) (h : wok r) : wok (l :: r) := fun x hx => by
  rcases List.mem_cons.mp hx with e | e
  · rw [e]; exact ⟨h1, h2⟩
  · exact h x e
theorem e32_lt : ∀ w, wok w → e32 w < 32 ^ w.length := by
  intro w
  induction w with
  | nil => intro _; exact Nat.one_pos
  | cons l r ih =>
    intro h
    obtain ⟨h1, h2, h3⟩ := wok_c h
    have := ih h3
    rw [e32, List.length_cons, Nat.pow_succ]
    omega
theorem e256_lt : ∀ w, wok w → e256 w < 256 ^ w.length := by
  intro w
  induction w with
  | nil => intro _; exact Nat.one_pos
  | cons l r ih =>
    intro h
    obtain ⟨h1, h2, h3⟩ := wok_c h
    have := ih h3
    rw [e256, List.length_cons, Nat.pow_succ]
    omega
theorem e32_b {w : List Nat} (h : wok w) (h7 : w.length ≤ 7) : e32 w < 2 ^ 35 := by
  have h1 := e32_lt w h
  have h2 : 32 ^ w.length ≤ 32 ^ 7 := Nat.pow_le_pow_right (by omega) h7
  have h3 : 32 ^ 7 = 2 ^ 35 := by decide
  omega
theorem e256_b {w : List Nat} (h : wok w) (h7 : w.length ≤ 7) : e256 w < 2 ^ 56 := by
  have h1 := e256_lt w h
  have h2 : 256 ^ w.length ≤ 256 ^ 7 := Nat.pow_le_pow_right (by omega) h7
  have h3 : 256 ^ 7 = 2 ^ 56 := by decide
  omega
theorem e32_inj : ∀ w v, wok w → wok v → e32 w = e32 v → w = v := by
  intro w
  induction w with
  | nil =>
    intro v _ hv h
    cases v with
    | nil => rfl
    | cons m t => have := wok_c hv; rw [e32, e32] at h; omega
  | cons l r ih =>
    intro v hw hv h
    cases v with
    | nil => have := wok_c hw; rw [e32, e32] at h; omega
    | cons m t =>
      obtain ⟨h1, h2, h3⟩ := wok_c hw
      obtain ⟨h4, h5, h6⟩ := wok_c hv
      rw [e32, e32] at h
      have e1 : l = m := by omega
      have e2 : e32 r = e32 t := by omega
      rw [e1, ih t h3 h6 e2]
theorem e256_inj : ∀ w v, wok w → wok v → e256 w = e256 v → w = v := by
  intro w
  induction w with
  | nil =>
    intro v _ hv h
    cases v with
    | nil => rfl
    | cons m t => have := wok_c hv; rw [e256, e256] at h; omega
  | cons l r ih =>
    intro v hw hv h
    cases v with
    | nil => have := wok_c hw; rw [e256, e256] at h; omega
    | cons m t =>
      obtain ⟨h1, h2, h3⟩ := wok_c hw
      obtain ⟨h4, h5, h6⟩ := wok_c hv
      rw [e256, e256] at h
      have e1 : l = m := by omega
      have e2 : e256 r = e256 t := by omega
      rw [e1, ih t h3 h6 e2]
/-- one word, as the class and as the reference have it -/
def WR (x y : Int64) : Prop := ∃ w, wok w ∧ 1 ≤ w.length ∧ w.length ≤ 7 ∧ x = lN (e32 w) ∧ y = lN (e256 w)
theorem WR_eq {x y x' y' : Int64} (h : WR x y) (h' : WR x' y') : x = x' ↔ y = y' := by
  obtain ⟨w, h1, _, h2, rfl, rfl⟩ := h
  obtain ⟨v, h3, _, h4, rfl, rfl⟩ := h'
  have b1 := e32_b h1 h2
  have b2 := e32_b h3 h4
  have b3 := e256_b h1 h2
  have b4 := e256_b h3 h4
  rw [pk_lEQ (by omega) (by omega), pk_lEQ (by omega) (by omega)]
  exact ⟨fun e => by rw [e32_inj w v h1 h3 e], fun e => by rw [e256_inj w v h1 h3 e]⟩
theorem e32_pos : ∀ w, wok w → 1 ≤ w.length → 1 ≤ e32 w := by
  intro w h h1
  cases w with
  | nil => simp at h1
  | cons l r => have := wok_c h; rw [e32]; omega
theorem WR_0 {x y : Int64} (h : WR x y) : x ≠ 0 := by
  obtain ⟨w, h1, h2, h3, rfl, rfl⟩ := h
  intro e
  have b1 := e32_b h1 h3
  have := (pk_lEQ (a := e32 w) (b := 0) (by omega) (by omega)).mp e
  have := e32_pos w h1 h2
  omega
/-! shifts of longs -/
theorem sll_or {n c : Nat} (hc : c < 256) (h : n * 256 + c < 2 ^ 63) : (sll (lN n) 8) ||| (lN c) = lN (n * 256 + c) := by
  refine Int64.toBitVec_inj.mp ?_
  unfold sll
  rw [Int64.toBitVec_or, Int64.toBitVec_shiftLeft]
  show (BitVec.ofNat 64 n <<< (((8 : Int32).toInt64 &&& 63).toBitVec.smod 64).toNat) ||| BitVec.ofNat 64 c = BitVec.ofNat 64 (n * 256 + c)
  rw [show (((8 : Int32).toInt64 &&& 63).toBitVec.smod 64).toNat = 8 from by decide]
  refine BitVec.eq_of_toNat_eq ?_
  have h1 : (BitVec.ofNat 64 n).toNat = n := by rw [BitVec.toNat_ofNat]; exact Nat.mod_eq_of_lt (by omega)
  have h2 : (BitVec.ofNat 64 c).toNat = c := by rw [BitVec.toNat_ofNat]; exact Nat.mod_eq_of_lt (by omega)
  have h3 : (BitVec.ofNat 64 (n * 256 + c)).toNat = n * 256 + c := by rw [BitVec.toNat_ofNat]; exact Nat.mod_eq_of_lt (by omega)
  have h5 : n * 256 % 2 ^ 64 = n * 256 := Nat.mod_eq_of_lt (Nat.lt_of_le_of_lt (Nat.le_add_right (n * 256) c) (Nat.lt_trans h (show 2 ^ 63 < 2 ^ 64 by decide)))
  have h4 : n <<< 8 = n * 256 := Nat.shiftLeft_eq n 8
  rw [BitVec.toNat_or, BitVec.toNat_shiftLeft, h1, h2, h3, h4, h5]
  have := Nat.shiftLeft_add_eq_or_of_lt (show c < 2 ^ 8 from hc) n
  rw [h4] at this
  exact this.symm
theorem srl_nt : ∀ k, k < 64 → (((nI k).toInt64 &&& 63).toBitVec.smod 64).toNat = k := by decide +kernel
set_option maxRecDepth 20000 in
theorem usl_nt : ∀ k, k < 64 → (((nI k).toInt64.toUInt64 &&& Int64.toUInt64 63).toBitVec % 64).toNat = k := by decide +kernel
theorem lN_tn {n : Nat} (h : n < 2 ^ 64) : (lN n).toBitVec.toNat = n := by
  show (BitVec.ofNat 64 n).toNat = n
  rw [BitVec.toNat_ofNat, Nat.mod_eq_of_lt h]
theorem srl_n {n k : Nat} (h : n < 2 ^ 63) (hk : k < 64) : srl (lN n) (nI k) = lN (n / 2 ^ k) := by
  refine Int64.toBitVec_inj.mp ?_
  unfold srl
  rw [Int64.toBitVec_shiftRight]
  show (BitVec.ofNat 64 n).sshiftRight (((nI k).toInt64 &&& 63).toBitVec.smod 64).toNat = BitVec.ofNat 64 (n / 2 ^ k)
  rw [srl_nt k hk]
  have hm : (BitVec.ofNat 64 n).msb = false := by
    rw [BitVec.msb_eq_false_iff_two_mul_lt, BitVec.toNat_ofNat, Nat.mod_eq_of_lt (by omega)]; omega
  rw [BitVec.sshiftRight_eq_of_msb_false hm]
  refine BitVec.eq_of_toNat_eq ?_
  have : n / 2 ^ k ≤ n := Nat.div_le_self _ _
  rw [BitVec.toNat_ushiftRight, BitVec.toNat_ofNat, BitVec.toNat_ofNat, Nat.mod_eq_of_lt (show n < 2 ^ 64 by omega), Nat.mod_eq_of_lt (show n / 2 ^ k < 2 ^ 64 by omega), Nat.shiftRight_eq_div_pow]
theorem and255_n {n : Nat} (h : n < 2 ^ 63) : lN n &&& 255 = lN (n % 256) := by
  refine Int64.toBitVec_inj.mp ?_
  rw [Int64.toBitVec_and]
  refine BitVec.eq_of_toNat_eq ?_
  have : n % 256 < 256 := Nat.mod_lt _ (by omega)
  rw [BitVec.toNat_and, lN_tn (by omega), lN_tn (by omega), show ((255 : Int64).toBitVec.toNat) = 2 ^ 8 - 1 from by decide, Nat.and_two_pow_sub_one_eq_mod]
theorem usl_n {n k : Nat} (h : n < 2 ^ 63) (hk : k < 64) : usl (lN n) (nI k) = lN (n / 2 ^ k) := by
  refine Int64.toBitVec_inj.mp ?_
  unfold usl
  show (((lN n).toUInt64) >>> ((nI k).toInt64.toUInt64 &&& Int64.toUInt64 63)).toBitVec = BitVec.ofNat 64 (n / 2 ^ k)
  rw [UInt64.toBitVec_shiftRight]
  show (BitVec.ofNat 64 n >>> (((nI k).toInt64.toUInt64 &&& Int64.toUInt64 63).toBitVec % 64).toNat) = BitVec.ofNat 64 (n / 2 ^ k)
  rw [usl_nt k hk]
  refine BitVec.eq_of_toNat_eq ?_
  have : n / 2 ^ k ≤ n := Nat.div_le_self _ _
  rw [BitVec.toNat_ushiftRight, BitVec.toNat_ofNat, BitVec.toNat_ofNat, Nat.mod_eq_of_lt (show n < 2 ^ 64 by omega), Nat.mod_eq_of_lt (show n / 2 ^ k < 2 ^ 64 by omega), Nat.shiftRight_eq_div_pow]
theorem lN_31 (n : Nat) : (lN n).toInt32 &&& 31 = nI (n % 32) := by
  rw [lN_i, pk_and (nI n) 5 (by decide)]
  have e : (nI n).toBitVec.toNat = n % 2 ^ 32 := rfl
  rw [e, show 2 ^ 5 = 32 from rfl, Nat.mod_mod_of_dvd _ (by decide : 32 ∣ 2 ^ 32)]
/-! letters out of a number, the first ahead -/
def dg32 (x : Nat) : Nat → List Nat
  | 0 => []
  | j + 1 => if x / 2 ^ (5 * j) % 32 = 0 then dg32 x j else (x / 2 ^ (5 * j) % 32 + 96) :: dg32 x j
def dg256 (x : Nat) : Nat → List Nat
  | 0 => []
  | j + 1 => if x / 2 ^ (8 * j) % 256 = 0 then dg256 x j else (x / 2 ^ (8 * j) % 256) :: dg256 x j
def wtx (w : List Nat) : List Nat := w.reverse.map (fun l => l + 96)
theorem dg32_s (x j : Nat) : dg32 x (j + 1) = if x / 2 ^ (5 * j) % 32 = 0 then dg32 x j else (x / 2 ^ (5 * j) % 32 + 96) :: dg32 x j := rfl
theorem dg256_s (x j : Nat) : dg256 x (j + 1) = if x / 2 ^ (8 * j) % 256 = 0 then dg256 x j else (x / 2 ^ (8 * j) % 256) :: dg256 x j := rfl
theorem dg32_c (x l : Nat) (hl : 1 ≤ l) (hl2 : l ≤ 26) : ∀ j, dg32 (x * 32 + l) (j + 1) = dg32 x j ++ [l + 96] := by
  intro j
  induction j with
  | zero =>
    rw [dg32_s (x * 32 + l) 0, show 2 ^ (5 * 0) = 1 from rfl, Nat.div_one, show (x * 32 + l) % 32 = l by omega, if_neg (by omega)]; rfl
  | succ j ih =>
    have e : (x * 32 + l) / 2 ^ (5 * (j + 1)) = x / 2 ^ (5 * j) := by
      rw [show 5 * (j + 1) = 5 + 5 * j by omega, Nat.pow_add, ← Nat.div_div_eq_div_mul, show (x * 32 + l) / 2 ^ 5 = x by omega]
    rw [dg32_s (x * 32 + l) (j + 1), e, ih, dg32_s x j]
    split <;> rfl
theorem dg32_0 : ∀ j, dg32 0 j = [] := by
  intro j
  induction j with
  | zero => rfl
  | succ j ih => rw [dg32, Nat.zero_div, if_pos rfl, ih]
theorem dg32_w : ∀ w, wok w → ∀ j, w.length ≤ j → dg32 (e32 w) j = wtx w := by
  intro w
  induction w with
  | nil => intro _ j _; exact dg32_0 j
  | cons l r ih =>
    intro h j hj
    obtain ⟨h1, h2, h3⟩ := wok_c h
    rw [List.length_cons] at hj
    obtain ⟨j, rfl⟩ : ∃ m, j = m + 1 := ⟨j - 1, by omega⟩
    rw [e32, dg32_c _ _ h1 h2, ih h3 j (by omega)]
    unfold wtx
    rw [List.reverse_cons, List.map_append]; rfl
theorem dg256_c (x l : Nat) (hl : 1 ≤ l) (hl2 : l ≤ 26) : ∀ j, dg256 (x * 256 + (96 + l)) (j + 1) = dg256 x j ++ [l + 96] := by
  intro j
  induction j with
  | zero =>
    rw [dg256_s (x * 256 + (96 + l)) 0, show 2 ^ (8 * 0) = 1 from rfl, Nat.div_one, show (x * 256 + (96 + l)) % 256 = l + 96 by omega, if_neg (by omega)]; rfl
  | succ j ih =>
    have e : (x * 256 + (96 + l)) / 2 ^ (8 * (j + 1)) = x / 2 ^ (8 * j) := by
      rw [show 8 * (j + 1) = 8 + 8 * j by omega, Nat.pow_add, ← Nat.div_div_eq_div_mul, show (x * 256 + (96 + l)) / 2 ^ 8 = x by omega]
    rw [dg256_s (x * 256 + (96 + l)) (j + 1), e, ih, dg256_s x j]
    split <;> rfl
theorem dg256_0 : ∀ j, dg256 0 j = [] := by
  intro j
  induction j with
  | zero => rfl
  | succ j ih => rw [dg256, Nat.zero_div, if_pos rfl, ih]
theorem dg256_w : ∀ w, wok w → ∀ j, w.length ≤ j → dg256 (e256 w) j = wtx w := by
  intro w
  induction w with
  | nil => intro _ j _; exact dg256_0 j
  | cons l r ih =>
    intro h j hj
    obtain ⟨h1, h2, h3⟩ := wok_c h
    rw [List.length_cons] at hj
    obtain ⟨j, rfl⟩ : ∃ m, j = m + 1 := ⟨j - 1, by omega⟩
    rw [e256, dg256_c _ _ h1 h2, ih h3 j (by omega)]
    unfold wtx
    rw [List.reverse_cons, List.map_append]; rfl
theorem dg32_le (x : Nat) : ∀ j, (dg32 x j).length ≤ j := by
  intro j
  induction j with
  | zero => exact Nat.le_refl _
  | succ j ih => rw [dg32]; split <;> (try simp only [List.length_cons]) <;> omega
theorem dg256_le (x : Nat) : ∀ j, (dg256 x j).length ≤ j := by
  intro j
  induction j with
  | zero => exact Nat.le_refl _
  | succ j ih => rw [dg256]; split <;> (try simp only [List.length_cons]) <;> omega
/-- bytes laid behind one another -/
def putL (f : Nat → Int32) (n : Nat) : List Nat → Nat → Int32
  | [] => f
  | c :: cs => putL (upd f n (nI c)) (n + 1) cs
theorem putL_app : ∀ (cs ds : List Nat) (f : Nat → Int32) (n : Nat), putL f n (cs ++ ds) = putL (putL f n cs) (n + cs.length) ds := by
  intro cs
  induction cs with
  | nil => intro ds f n; rfl
  | cons c cs ih => intro ds f n; rw [List.cons_append, putL, ih, putL, List.length_cons, show n + 1 + cs.length = n + (cs.length + 1) by omega]
theorem putL_eq : ∀ (cs : List Nat) (f g : Nat → Int32) (n : Nat), (∀ k, k < n → f k = g k) → ∀ k, k < n + cs.length → putL f n cs k = putL g n cs k := by
  intro cs
  induction cs with
  | nil => intro f g n h k hk; exact h k hk
  | cons c cs ih =>
    intro f g n h k hk
    rw [putL, putL]
    rw [List.length_cons] at hk
    refine ih _ _ (n + 1) (fun j hj => ?_) k (by omega)
    by_cases hjn : j = n
    · rw [hjn, pk_us, pk_us]
    · rw [pk_un hjn, pk_un hjn]; exact h j (by omega)
theorem m5_n (m : Nat) : nI (m + 5) + (-5) = nI m := by
  rw [← nI_add, Int32.add_assoc, show nI 5 + (-5) = 0 from by decide, Int32.add_zero]
theorem m8_n (m : Nat) : nI (m + 8) + (-8) = nI m := by
  rw [← nI_add, Int32.add_assoc, show nI 8 + (-8) = 0 from by decide, Int32.add_zero]
section
variable (N : Nat)
theorem x_add {sP : Nat → Nat → Int32} {iP : Nat → Int32} {n : Nat} (h : iP 1 = nI n) (hn : n < 80) (c : Int32) : f_X5_add N sP iP c = some (va_up sP 0 (upd (sP 0) n c), va_up iP 1 (nI (n + 1))) := by
  unfold f_X5_add
  rw [h, L80, if_neg (nI_ge hn (by omega)), q_ck hn (by omega), q_nv, show ix (nI n) = n from q_ix (by omega), nI_1]
theorem x_addName {x : Nat} (hx : x < 2 ^ 63) : ∀ j, j ≤ 7 → ∀ (k n : Nat) (sP : Nat → Nat → Int32) (iP : Nat → Int32), j < k → iP 1 = nI n → n + j ≤ 80 → f_X5_addName_3 N (lN x) k sP iP (nI (5 * j) + (-5)) = some (va_up sP 0 (putL (sP 0) n (dg32 x j)), va_up iP 1 (nI (n + (dg32 x j).length))) := by
  intro j
  induction j with
  | zero =>
    intro _ k n sP iP hk h hn
    obtain ⟨k, rfl⟩ : ∃ m, k = m + 1 := ⟨k - 1, by omega⟩
    rw [f_X5_addName_3, if_pos (by decide)]
    show some (sP, iP) = some (va_up sP 0 (sP 0), va_up iP 1 (nI n))
    rw [q_vid, up_id h]
  | succ j ih =>
    intro hj k n sP iP hk h hn
    obtain ⟨k, rfl⟩ : ∃ m, k = m + 1 := ⟨k - 1, by omega⟩
    rw [f_X5_addName_3, show 5 * (j + 1) = 5 * j + 5 by omega, m5_n, if_neg (nI_n0 (by omega)), q_nv, q_jn, usl_n hx (by omega), lN_31, dg32]
    have hb : x / 2 ^ (5 * j) % 32 < 32 := Nat.mod_lt _ (by omega)
    rw [nI_le0 (by omega)]
    by_cases c : x / 2 ^ (5 * j) % 32 = 0
    · rw [if_pos c, if_pos c]
      exact ih (by omega) k n sP iP (by omega) h (by omega)
    · rw [if_neg c, if_neg c, L96, nI_add, x_add N h (by omega), q_bd]
      dsimp only
      rw [ih (by omega) k (n + 1) _ _ (by omega) rfl (by omega), q_ve, q_vv, q_vv, putL, List.length_cons, show n + 1 + (dg32 x j).length = n + ((dg32 x j).length + 1) by omega]
theorem y_lays8 {iY : Nat → Int32} {sY : Nat → Nat → Int32} {tY : Nat → Nat → Int64} {jY : Nat → Int64} {n c : Nat} (h : iY 37 = nI n) (hn : n < 80) (hc : c < 128) : f_X11_lays N iY sY tY jY (nI c) = some (va_up iY 37 (nI (n + 1)), va_up sY 36 (upd (sY 36) n (nI c))) := by
  have e : vp_nar .byte ((nI c).toInt8.toInt32) = nI c := by
    rw [pk_vb]
    exact lg_i2b_small (by rw [nI_toInt (by omega)]; omega) (by rw [nI_toInt (by omega)]; omega)
  unfold f_X11_lays
  rw [h, q_ck hn (by omega), q_nv, show ix (nI n) = n from q_ix (by omega), nI_1, e]
theorem y_spells {tY : Nat → Nat → Int64} {jY : Nat → Int64} {x : Nat} (hx : x < 2 ^ 63) (h128 : ∀ j, j < 8 → x / 2 ^ (8 * j) % 256 < 128) : ∀ j, j ≤ 8 → ∀ (k n : Nat) (iY : Nat → Int32) (sY : Nat → Nat → Int32), j < k → iY 37 = nI n → n + (dg256 x j).length ≤ 80 → f_X11_spells_3 N tY jY (lN x) k iY sY (nI (8 * j) + (-8)) = some (va_up iY 37 (nI (n + (dg256 x j).length)), va_up sY 36 (putL (sY 36) n (dg256 x j))) := by
  intro j
  induction j with
  | zero =>
    intro _ k n iY sY hk h hn
    obtain ⟨k, rfl⟩ : ∃ m, k = m + 1 := ⟨k - 1, by omega⟩
    rw [f_X11_spells_3, if_pos (by decide)]
    show some (iY, sY) = some (va_up iY 37 (nI n), va_up sY 36 (sY 36))
    rw [q_vid, up_id h]
  | succ j ih =>
    intro hj k n iY sY hk h hn
    obtain ⟨k, rfl⟩ : ∃ m, k = m + 1 := ⟨k - 1, by omega⟩
    have hd : x / 2 ^ (8 * j) ≤ x := Nat.div_le_self _ _
    rw [f_X11_spells_3, show 8 * (j + 1) = 8 * j + 8 by omega, m8_n, if_neg (nI_n0 (by omega)), q_jn, srl_n hx (by omega), and255_n (by omega)]
    have hb := h128 j (by omega)
    by_cases c : x / 2 ^ (8 * j) % 256 = 0
    · rw [dg256, if_pos c] at hn
      rw [if_pos ((lg_cmp_eq _ _).mpr (by rw [c]; rfl)), dg256, if_pos c]
      exact ih (by omega) k n iY sY (by omega) h hn
    · rw [dg256, if_neg c, List.length_cons] at hn
      rw [if_neg (show ¬ lg_cmp (lN (x / 2 ^ (8 * j) % 256)) 0 = 0 from fun e => c ((pk_lEQ (b := 0) (by omega) (by omega)).mp ((lg_cmp_eq _ _).mp e))), dg256, if_neg c, lN_i, y_lays8 N h (by omega) hb, q_bd]
      dsimp only
      rw [ih (by omega) k (n + 1) _ _ (by omega) rfl (by omega), q_ve, q_vv, q_vv, putL, List.length_cons, show n + 1 + (dg256 x j).length = n + ((dg256 x j).length + 1) by omega]
end
