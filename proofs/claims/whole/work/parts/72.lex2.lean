/-! PURE: next, both sides -/
theorem L32 : (32 : Int32) = nI 32 := rfl
section
variable (N : Nat) {sT : Nat → Nat → Int32} {iT : Nat → Int32} {jT : Nat → Int64} {o : Nat → Nat} {L : Nat}
theorem x_skip (hN : 2000 ≤ N) (ho : ∀ k, o k < 256) (hB : ∀ k, k < 940 → sT 0 k = nI (o k)) {cut a n : Nat} (hc : cut ≤ 940) (ha : a ≤ 940) (h2 : iT 2 = nI cut) (h4 : iT 4 = nI a) (hn : ∀ i, i < n → a + i < cut ∧ blk (o (a + i)) = true) (hend : cut ≤ a + n ∨ blk (o (a + n)) = false) (K : (Nat → Int32) → Option ((Nat → Int32) × (Nat → Int64))) :
    ∃ z, (z 4 = nI (a + n) ∧ ∀ k, k ≠ 4 → z k = iT k) ∧ f_X8_next_0 N sT jT K N iT = K z := by
  have hn940 : n ≤ 940 := by
    rcases Nat.lt_or_ge n 1 with h | h
    · omega
    · have := (hn (n - 1) (by omega)).1; omega
  refine q_rel (fun k x => f_X8_next_0 N sT jT K k x) K n (fun i x => x 4 = nI (a + i) ∧ ∀ k, k ≠ 4 → x k = iT k) (fun k x hx => ?_) (fun k i x hi hx => ?_) iT ⟨h4, fun _ _ => rfl⟩ N (by omega)
  · show f_X8_next_0 N sT jT K (k + 1) x = K x
    rw [f_X8_next_0, hx.2 2 (by omega), h2, hx.1, i_le (by omega) (by omega)]
    by_cases c : cut ≤ a + n
    · rw [if_pos c]
    · have hb := hend.resolve_left c
      have := ho (a + n)
      unfold blk at hb
      rw [Bool.or_eq_false_iff, decide_eq_false_iff_not, decide_eq_false_iff_not] at hb
      rw [if_neg c, q_ck (show a + n < 940 by omega) (by omega), q_jn, show ix (nI (a + n)) = a + n from q_ix (by omega), hB _ (by omega), L32, L10, i_eq (by omega) (by omega), if_neg hb.1, q_ck (show a + n < 940 by omega) (by omega), i_eq (by omega) (by omega), if_neg hb.2]
  · show ∃ y, _ ∧ f_X8_next_0 N sT jT K (k + 1) x = f_X8_next_0 N sT jT K k y
    obtain ⟨h5, hb⟩ := hn i hi
    have := ho (a + i)
    refine ⟨va_up x 4 (nI (a + (i + 1))), ⟨rfl, fun k hk => (q_vn _ _ hk).trans (hx.2 k hk)⟩, ?_⟩
    unfold blk at hb
    rw [Bool.or_eq_true, decide_eq_true_eq, decide_eq_true_eq] at hb
    rw [f_X8_next_0, hx.2 2 (by omega), h2, hx.1, i_le (by omega) (by omega), if_neg (by omega), q_ck (show a + i < 940 by omega) (by omega), q_jn, show ix (nI (a + i)) = a + i from q_ix (by omega), hB _ (by omega), L32, L10, i_eq (by omega) (by omega), nI_1, q_ck (show a + i < 940 by omega) (by omega), i_eq (by omega) (by omega)]
    rcases hb with c | c
    · rw [if_pos c]; rfl
    · rw [if_neg (by omega), if_pos c]; rfl
theorem x_readRun (hN : 2000 ≤ N) (ho : ∀ k, o k < 256) (hB : ∀ k, k < 940 → sT 0 k = nI (o k)) {st n : Nat} (hL : L ≤ 940) (h1 : iT 1 = nI L) (h4 : iT 4 = nI st) (h6 : iT 6 = nI st) (hn : st + n ≤ L) (hr : ∀ i, i < n → rc (o (st + i)) = true) (hend : st + n = L ∨ rc (o (st + n)) = false) :
    ∃ z w, f_X8_readRun N sT iT jT = some (z, w) ∧ z 4 = nI (st + n) ∧ z 9 = vvS o st n ∧ w 10 = llS o st n ∧ z 5 = (if cDS o st n = 0 ∧ n ≤ 7 then 1 else if cDS o st n = n ∧ n ≤ 3 then 2 else 4) ∧ ∀ k, k ≠ 4 → k ≠ 5 → k ≠ 9 → z k = iT k := by
  unfold f_X8_readRun
  rw [q_jn]
  have key := q_rel (fun k (x : (Nat → Int32) × (Nat → Int64) × Int32) => f_X8_readRun_12 N sT (fun (z : (Int32) × (Nat → Int32) × (Nat → Int64)) => match z with | (x1_4, iT_5, jT_6) => nv ((iT_5 4) - (iT_5 6)) (fun n_7 => jn (fun (z : Unit) => match z with | () => jn (fun (z : Unit) => match z with | () => some ((va_up iT_5 5 4), jT_6)) (fun K_11 => (if x1_4 = n_7 then (if (3 : Int32) < n_7 then K_11 () else some ((va_up iT_5 5 2), jT_6)) else K_11 ()))) (fun K_8 => (if x1_4 = 0 then (if (7 : Int32) < n_7 then K_8 () else some ((va_up iT_5 5 1), jT_6)) else K_8 ())))) k x.1 x.2.1 x.2.2) (fun x => (fun (z : (Int32) × (Nat → Int32) × (Nat → Int64)) => match z with | (x1_4, iT_5, jT_6) => nv ((iT_5 4) - (iT_5 6)) (fun n_7 => jn (fun (z : Unit) => match z with | () => jn (fun (z : Unit) => match z with | () => some ((va_up iT_5 5 4), jT_6)) (fun K_11 => (if x1_4 = n_7 then (if (3 : Int32) < n_7 then K_11 () else some ((va_up iT_5 5 2), jT_6)) else K_11 ()))) (fun K_8 => (if x1_4 = 0 then (if (7 : Int32) < n_7 then K_8 () else some ((va_up iT_5 5 1), jT_6)) else K_8 ())))) (x.2.2, x.1, x.2.1)) n (fun i x => x.1 4 = nI (st + i) ∧ x.1 9 = vvS o st i ∧ x.2.1 10 = llS o st i ∧ x.2.2 = nI (cDS o st i) ∧ ∀ k, k ≠ 4 → k ≠ 9 → x.1 k = iT k) (fun k x hx => ?_) (fun k i x hi hx => ?_) (va_up iT 9 0, va_up jT 10 0, 0) ⟨h4, rfl, rfl, rfl, fun k _ h9 => q_vn _ _ h9⟩ N (by omega)
  · obtain ⟨⟨z, w, v⟩, ⟨p4, p9, p10, pv, po⟩, e⟩ := key
    dsimp only at p4 p9 p10 pv po e
    have hcD := cD_le (o := o) (st := st) n
    refine ⟨va_up z 5 (if cDS o st n = 0 ∧ n ≤ 7 then 1 else if cDS o st n = n ∧ n ≤ 3 then 2 else 4), w, Eq.trans e ?_, p4, p9, p10, rfl, fun k h4 h5 h9 => (q_vn _ _ h5).trans (po k h4 h9)⟩
    rw [q_nv, p4, po 6 (by omega) (by omega), h6, pk_sub (by omega), show st + n - st = n by omega, pv]
    simp only [q_jn]
    rw [show (0 : Int32) = nI 0 from rfl, i_eq (a := cDS o st n) (b := 0) (by omega) (by omega), i_eq (a := cDS o st n) (b := n) (by omega) (by omega), L7, L3, i_lt (a := 7) (by omega) (by omega), i_lt (a := 3) (by omega) (by omega)]
    by_cases c0 : cDS o st n = 0
    · by_cases c7 : n ≤ 7
      · rw [if_pos c0, if_neg (by omega), if_pos ⟨c0, c7⟩]
      · rw [if_pos c0, if_pos (by omega), if_neg (show ¬ (cDS o st n = 0 ∧ n ≤ 7) from fun h => c7 h.2), if_neg (show ¬ cDS o st n = n by omega), if_neg (show ¬ (cDS o st n = n ∧ n ≤ 3) by omega)]
    · rw [if_neg c0, if_neg (show ¬ (cDS o st n = 0 ∧ n ≤ 7) from fun h => c0 h.1)]
      by_cases c1 : cDS o st n = n
      · by_cases c3 : n ≤ 3
        · rw [if_pos c1, if_neg (by omega), if_pos ⟨c1, c3⟩]
        · rw [if_pos c1, if_pos (by omega), if_neg (show ¬ (cDS o st n = n ∧ n ≤ 3) from fun h => c3 h.2)]
      · rw [if_neg c1, if_neg (show ¬ (cDS o st n = n ∧ n ≤ 3) from fun h => c1 h.1)]
  · obtain ⟨p4, p9, p10, pv, po⟩ := hx
    show f_X8_readRun_12 N sT _ (k + 1) x.1 x.2.1 x.2.2 = _
    rw [f_X8_readRun_12, po 1 (by omega) (by omega), h1, p4, i_le (by omega) (by omega)]
    by_cases c : L ≤ st + n
    · rw [if_pos c]
    · have hb := hend.resolve_left (by omega)
      have hc := ho (st + n)
      unfold rc isLt isDg at hb
      rw [Bool.or_eq_false_iff, Bool.and_eq_false_iff, Bool.and_eq_false_iff, decide_eq_false_iff_not, decide_eq_false_iff_not, decide_eq_false_iff_not, decide_eq_false_iff_not] at hb
      rw [if_neg c, q_ck (show st + n < 940 by omega) (by omega), q_nv, show ix (nI (st + n)) = st + n from q_ix (by omega), hB _ (by omega), q_jn, q_jn, L97, L122, L48, L57, i_lt (by omega) (by omega), i_lt (by omega) (by omega), i_lt (by omega) (by omega), i_lt (by omega) (by omega)]
      by_cases a1 : o (st + n) < 48
      · rw [if_pos a1, if_pos (by omega)]
      · rw [if_neg a1, if_pos (by omega)]
        by_cases a2 : o (st + n) < 97
        · rw [if_pos a2]
        · rw [if_neg a2, if_pos (by omega)]
  · obtain ⟨p4, p9, p10, pv, po⟩ := hx
    have hc := ho (st + i)
    have hri := hr i hi
    by_cases hd : isDg (o (st + i)) = true
    · have hin := dg_in hd
      refine ⟨(va_up (va_up x.1 9 (vvS o st (i + 1))) 4 (nI (st + (i + 1))), x.2.1, nI (cDS o st (i + 1))), ⟨rfl, rfl, ?_, rfl, fun k h4 h9 => ?_⟩, ?_⟩
      · rw [llS, if_pos hd]; exact p10
      · show va_up (va_up x.1 9 _) 4 _ k = _
        rw [q_vn _ _ h4, q_vn _ _ h9]; exact po k h4 h9
      · show f_X8_readRun_12 N sT _ (k + 1) x.1 x.2.1 x.2.2 = f_X8_readRun_12 N sT _ k _ _ _
        rw [f_X8_readRun_12, po 1 (by omega) (by omega), h1, p4, i_le (by omega) (by omega), if_neg (by omega), q_ck (show st + i < 940 by omega) (by omega), q_nv, show ix (nI (st + i)) = st + i from q_ix (by omega), hB _ (by omega), q_jn, q_jn, L48, L57, i_lt (by omega) (by omega), i_lt (by omega) (by omega), if_neg (by omega), if_neg (by omega), q_nv, p9, pv, vvS, if_pos hd, cDS, if_pos hd, nI_1]
        dsimp only
        rw [q_vn _ _ (show 4 ≠ 9 by omega), p4, nI_1]; rfl
    · have hl : isLt (o (st + i)) = true := by
        unfold rc at hri
        rw [Bool.or_eq_true] at hri
        exact hri.resolve_right hd
      have hin := lt_in hl
      refine ⟨(va_up x.1 4 (nI (st + (i + 1))), va_up x.2.1 10 (llS o st (i + 1)), nI (cDS o st (i + 1))), ⟨rfl, ?_, rfl, rfl, fun k h4 h9 => ?_⟩, ?_⟩
      · rw [vvS, if_neg hd]; exact p9
      · exact (q_vn _ _ h4).trans (po k h4 h9)
      · show f_X8_readRun_12 N sT _ (k + 1) x.1 x.2.1 x.2.2 = f_X8_readRun_12 N sT _ k _ _ _
        rw [f_X8_readRun_12, po 1 (by omega) (by omega), h1, p4, i_le (by omega) (by omega), if_neg (by omega), q_ck (show st + i < 940 by omega) (by omega), q_nv, show ix (nI (st + i)) = st + i from q_ix (by omega), hB _ (by omega), q_jn, q_jn, L97, L122, L48, L57, i_lt (by omega) (by omega), i_lt (by omega) (by omega), i_lt (by omega) (by omega), i_lt (by omega) (by omega), if_neg (by omega), if_pos (by omega), if_neg (by omega), if_neg (by omega), q_nv, p10, pv, llS, if_neg hd, cDS, if_neg hd]
        dsimp only
        rw [p4, nI_1]; rfl
end
