def f_X11_takes (N : Nat) (iY : Nat → Int32) (sY : Nat → Nat → Int32) (tY : Nat → Nat → Int64) (jY : Nat → Int64) (p1 : Int32) (p2 : Int32) : Option (Int32 × (Nat → Int32) × (Nat → Int64)) :=
  (if (iY 11) = 2 then bd (f_X11_isIn N (iY 14) p1 p2) (fun r_2 => (if r_2 = 0 then bd (f_X11_bad N iY sY tY jY 2) (fun (r_8, iY_9) => zb r_8 (some (r_8, iY_9, jY))) else bd (f_X11_next N (va_up iY 18 (iY 14)) sY tY jY) (fun (iY_5, jY_6) => some (1, iY_5, jY_6)))) else bd (f_X11_bad N iY sY tY jY 1) (fun (r_12, iY_13) => zb r_12 (some (r_12, iY_13, jY))))
set_option maxHeartbeats 4000000 in
set_option maxRecDepth 100000 in
theorem c_X11_takes (l : Launch) (G : GT) (N : Nat) (uY : Nat → Nat) (iY : Nat → Int32) (sY : Nat → Nat → Int32) (tY : Nat → Nat → Int64) (jY : Nat → Int64) (p1 : Int32) (p2 : Int32) {r : Int32} {iY' : Nat → Int32} {jY' : Nat → Int64} (hf : f_X11_takes N iY sY tY jY p1 p2 = some (r, iY', jY')) : CI l G yX11_takes cX11_takes 3 .boolean 3 [.ref (uY 0), .int p1, .int p2] (gY G uY iY sY tY jY) r (gY G uY iY' sY tY jY') := by
  refine CI.of (by decide) (Nat.le_of_ble_eq_true rfl) ?_
  intro p e s m args below meth c A X hA hP hD hS ls hl
  have hl : lv_has ls 3 [(0, .ref (uY 0)), (1, .int p1), (2, .int p2)] := hl
  generalize hQ : MQ below (QI G A r (gY G uY iY' sY tY jY')) args s 0 0 A = QQ
  unfold f_X11_takes at hf
  refine lv_aload_n X.hx X.hb dX11_takes_0 rfl (lv_at hl 0 rfl) ?_
  refine gf_X11_157 X hP 0 rfl (v := .int (iY 11)) rfl dX11_takes_1 ?_
  refine lv_iconst (v := 2) X.hx X.hb dX11_takes_4 (by decide) ?_
  refine lv_icmp_eq (tgt := 14) X.hx X.hb dX11_takes_5 (by decide) (fun hc_1 => ?_) (fun hc_1 => ?_)
  · replace hf := if_t hf hc_1
    refine lv_aload_n X.hx X.hb dX11_takes_14 rfl (lv_at hl 0 rfl) ?_
    refine gf_X11_167 X hP 0 rfl (v := .int (iY 14)) rfl dX11_takes_15 ?_
    refine lv_iload_n X.hx X.hb dX11_takes_18 rfl (lv_at hl 1 rfl) ?_
    refine lv_iload_n X.hx X.hb dX11_takes_19 rfl (lv_at hl 2 rfl) ?_
    obtain ⟨r_2, hc_3, hf⟩ := bd_i hf
    refine r_cs0 (As := [.int (iY 14), .int p1, .int p2]) (rest := []) X sm_X11_189 (c_X11_isIn l G N (iY 14) p1 p2 hc_3) hP hD hS hA rfl hl.1 (lv_room (Nat.le_of_ble_eq_true rfl)) ⟨Nat.le_of_ble_eq_true rfl, Nat.le_of_ble_eq_true rfl⟩ ⟨Nat.zero_le _, Nat.zero_le _⟩ dX11_takes_20 (fun H locs hP hD hS => ?_)
    refine lv_if_ne (tgt := 32) X.hx X.hb dX11_takes_23 (by decide) (fun hc_4 => ?_) (fun hc_4 => ?_)
    · replace hf := if_f hf hc_4
      refine lv_aload_n X.hx X.hb dX11_takes_32 rfl (lv_at hl 0 rfl) ?_
      refine lv_aload_n X.hx X.hb dX11_takes_33 rfl (lv_at hl 0 rfl) ?_
      refine gf_X11_167 X hP 0 rfl (v := .int (iY 14)) rfl dX11_takes_34 ?_
      refine pf_X11_193 X hP hD hS 0 rfl rfl rfl (Nat.le_of_ble_eq_true rfl) (wo := (gY G uY (va_up iY 18 (iY 14)) sY tY jY)) rfl dX11_takes_37 (fun H locs hP hD hS => ?_)
      refine lv_aload_n X.hx X.hb dX11_takes_40 rfl (lv_at hl 0 rfl) ?_
      obtain ⟨⟨iY_5, jY_6⟩, hc_7, hf⟩ := bd_i hf
      refine r_wvv (As := []) (rest := []) X sm_X11_186 (c_X11_next l G N uY (va_up iY 18 (iY 14)) sY tY jY hc_7) hP hD hS hA 0 rfl rfl rfl hl.1 (lv_room (Nat.le_of_ble_eq_true rfl)) ⟨Nat.le_of_ble_eq_true rfl, Nat.le_of_ble_eq_true rfl⟩ ⟨Nat.zero_le _, Nat.zero_le _⟩ dX11_takes_41 (fun H locs hP hD hS => ?_)
      refine lv_iconst (v := 1) X.hx X.hb dX11_takes_44 (by decide) ?_
      cases hf
      subst hQ
      exact r_zret X hP hD hS (by decide) dX11_takes_45
    · replace hf := if_t hf hc_4
      refine lv_aload_n X.hx X.hb dX11_takes_26 rfl (lv_at hl 0 rfl) ?_
      refine lv_iconst (v := 2) X.hx X.hb dX11_takes_27 (by decide) ?_
      obtain ⟨⟨r_8, iY_9⟩, hc_10, hf⟩ := bd_i hf
      refine r_wvi (As := [.int 2]) (rest := []) X sm_X11_183 (c_X11_bad l G N uY iY sY tY jY 2 hc_10) hP hD hS hA 0 rfl rfl rfl hl.1 (lv_room (Nat.le_of_ble_eq_true rfl)) ⟨Nat.le_of_ble_eq_true rfl, Nat.le_of_ble_eq_true rfl⟩ ⟨Nat.zero_le _, Nat.zero_le _⟩ dX11_takes_28 (fun H locs hP hD hS => ?_)
      obtain ⟨hb_11, hf⟩ := zb_i hf
      cases hf
      subst hQ
      exact r_zret X hP hD hS hb_11 dX11_takes_31
  · replace hf := if_f hf hc_1
    refine lv_aload_n X.hx X.hb dX11_takes_8 rfl (lv_at hl 0 rfl) ?_
    refine lv_iconst (v := 1) X.hx X.hb dX11_takes_9 (by decide) ?_
    obtain ⟨⟨r_12, iY_13⟩, hc_14, hf⟩ := bd_i hf
    refine r_wvi (As := [.int 1]) (rest := []) X sm_X11_183 (c_X11_bad l G N uY iY sY tY jY 1 hc_14) hP hD hS hA 0 rfl rfl rfl hl.1 (lv_room (Nat.le_of_ble_eq_true rfl)) ⟨Nat.le_of_ble_eq_true rfl, Nat.le_of_ble_eq_true rfl⟩ ⟨Nat.zero_le _, Nat.zero_le _⟩ dX11_takes_10 (fun H locs hP hD hS => ?_)
    obtain ⟨hb_15, hf⟩ := zb_i hf
    cases hf
    subst hQ
    exact r_zret X hP hD hS hb_15 dX11_takes_13

def f_X11_puts (N : Nat) (iY : Nat → Int32) (sY : Nat → Nat → Int32) (tY : Nat → Nat → Int64) (jY : Nat → Int64) (p1 : Int32) (p2 : Int32) (p3 : Int32) : Option (Int32 × (Nat → Int32) × (Nat → Nat → Int32) × (Nat → Int64)) :=
  bd (f_X11_takes N iY sY tY jY p2 p3) (fun (r_1, iY_2, jY_3) => (if r_1 = 0 then some (0, iY_2, sY, jY_3) else ck p1 131 (nv (upd (sY 7) (ix p1) (iY_2 18)) (fun g_7 => some (1, iY_2, (va_up sY 7 g_7), jY_3)))))
set_option maxHeartbeats 4000000 in
set_option maxRecDepth 100000 in
theorem c_X11_puts (l : Launch) (G : GT) (N : Nat) (uY : Nat → Nat) (iY : Nat → Int32) (sY : Nat → Nat → Int32) (tY : Nat → Nat → Int64) (jY : Nat → Int64) (p1 : Int32) (p2 : Int32) (p3 : Int32) {r : Int32} {iY' : Nat → Int32} {sY' : Nat → Nat → Int32} {jY' : Nat → Int64} (hf : f_X11_puts N iY sY tY jY p1 p2 p3 = some (r, iY', sY', jY')) : CI l G yX11_puts cX11_puts 4 .boolean 4 [.ref (uY 0), .int p1, .int p2, .int p3] (gY G uY iY sY tY jY) r (gY G uY iY' sY' tY jY') := by
  refine CI.of (by decide) (Nat.le_of_ble_eq_true rfl) ?_
  intro p e s m args below meth c A X hA hP hD hS ls hl
  have hl : lv_has ls 4 [(0, .ref (uY 0)), (1, .int p1), (2, .int p2), (3, .int p3)] := hl
  generalize hQ : MQ below (QI G A r (gY G uY iY' sY' tY jY')) args s 0 0 A = QQ
  unfold f_X11_puts at hf
  refine lv_aload_n X.hx X.hb dX11_puts_0 rfl (lv_at hl 0 rfl) ?_
  refine lv_iload_n X.hx X.hb dX11_puts_1 rfl (lv_at hl 2 rfl) ?_
  refine lv_iload_n X.hx X.hb dX11_puts_2 rfl (lv_at hl 3 rfl) ?_
  obtain ⟨⟨r_1, iY_2, jY_3⟩, hc_4, hf⟩ := bd_i hf
  refine r_wvi (As := [.int p2, .int p3]) (rest := []) X sm_X11_196 (c_X11_takes l G N uY iY sY tY jY p2 p3 hc_4) hP hD hS hA 0 rfl rfl rfl hl.1 (lv_room (Nat.le_of_ble_eq_true rfl)) ⟨Nat.le_of_ble_eq_true rfl, Nat.le_of_ble_eq_true rfl⟩ ⟨Nat.zero_le _, Nat.zero_le _⟩ dX11_puts_3 (fun H locs hP hD hS => ?_)
  refine lv_if_ne (tgt := 11) X.hx X.hb dX11_puts_6 (by decide) (fun hc_5 => ?_) (fun hc_5 => ?_)
  · replace hf := if_f hf hc_5
    refine lv_aload_n X.hx X.hb dX11_puts_11 rfl (lv_at hl 0 rfl) ?_
    refine gf_X11_37 X hP 0 rfl (v := .ref (uY 8)) rfl dX11_puts_12 ?_
    refine lv_iload_n X.hx X.hb dX11_puts_15 rfl (lv_at hl 1 rfl) ?_
    refine lv_aload_n X.hx X.hb dX11_puts_16 rfl (lv_at hl 0 rfl) ?_
    refine gf_X11_193 X hP 0 rfl (v := .int (iY_2 18)) rfl dX11_puts_17 ?_
    obtain ⟨hi_6, hf⟩ := ck_i hf
    obtain ⟨g_7, eg_7, hf⟩ := nv_i hf
    refine r_iast X hP hD hS 3 (f := (sY 7)) rfl hi_6 (wo := (gY G uY iY_2 (va_up sY 7 g_7) tY jY_3)) (by subst eg_7; rfl) dX11_puts_20 (fun H locs hP hD hS => ?_)
    refine lv_iconst (v := 1) X.hx X.hb dX11_puts_21 (by decide) ?_
    cases hf
    subst hQ
    exact r_zret X hP hD hS (by decide) dX11_puts_22
  · replace hf := if_t hf hc_5
    refine lv_iconst (v := 0) X.hx X.hb dX11_puts_9 (by decide) ?_
    cases hf
    subst hQ
    exact r_zret X hP hD hS (by decide) dX11_puts_10

def f_X11_seek_2 (N : Nat) (iY : Nat → Int32) (sY : Nat → Nat → Int32) (tY : Nat → Nat → Int64) (jY : Nat → Int64) (v1 : Int32) (v2 : Int32) : Nat → (Int32) → Option (Int32)
  | 0, _ => none
  | k + 1, v3 => (if v2 ≤ v3 then some (-1) else ck (v1 + v3) 24 ((if (lg_cmp ((tY 9) (ix (v1 + v3))) (jY 17)) = 0 then some v3 else f_X11_seek_2 N iY sY tY jY v1 v2 k (v3 + 1))))
def f_X11_seek (N : Nat) (iY : Nat → Int32) (sY : Nat → Nat → Int32) (tY : Nat → Nat → Int64) (jY : Nat → Int64) (p1 : Int32) (p2 : Int32) : Option (Int32) :=
  f_X11_seek_2 N iY sY tY jY p1 p2 N 0
set_option maxHeartbeats 4000000 in
set_option maxRecDepth 100000 in
theorem c_X11_seek (l : Launch) (G : GT) (N : Nat) (uY : Nat → Nat) (iY : Nat → Int32) (sY : Nat → Nat → Int32) (tY : Nat → Nat → Int64) (jY : Nat → Int64) (p1 : Int32) (p2 : Int32) {r : Int32} (hf : f_X11_seek N iY sY tY jY p1 p2 = some r) : CI l G yX11_seek cX11_seek 4 .int 1 [.ref (uY 0), .int p1, .int p2] (gY G uY iY sY tY jY) r (gY G uY iY sY tY jY) := by
  refine CI.of (by decide) (Nat.le_of_ble_eq_true rfl) ?_
  intro p e s m args below meth c A X hA hP hD hS ls hl
  have hl : lv_has ls 4 [(0, .ref (uY 0)), (1, .int p1), (2, .int p2)] := hl
  generalize hQ : MQ below (QI G A r (gY G uY iY sY tY jY)) args s 0 0 A = QQ
  unfold f_X11_seek at hf
  refine lv_iconst (v := 0) X.hx X.hb dX11_seek_0 (by decide) ?_
  refine lv_istore_n (lv' := [(3, .int 0), (0, .ref (uY 0)), (1, .int p1), (2, .int p2)]) X.hx X.hb dX11_seek_1 rfl hl (by decide) rfl (fun ls hl => ?_)
  have hlo_1 : ∀ (k : Nat) (v3_2 : Int32) (H : Heap) (locs : List Loc) (ls : Array Slot), f_X11_seek_2 N iY sY tY jY p1 p2 k v3_2 = some r → va_P G.1 vwCl (gY G uY iY sY tY jY) H → va_D A (gY G uY iY sY tY jY) → va_S A s.heap H locs → lv_has ls 4 [(0, .ref (uY 0)), (1, .int p1), (2, .int p2), (3, .int v3_2)] → W p l e (RM 1) s m args below meth c H locs 0 0 QQ (F0 m 2 ls []) := by
    intro k
    induction k with
    | zero => intro v3_2 H locs ls hf; exact absurd hf (by intro q; cases q)
    | succ k ih =>
      intro v3_2 H locs ls hf hP hD hS hl
      unfold f_X11_seek_2 at hf
      refine lv_iload_n X.hx X.hb dX11_seek_2 rfl (lv_at hl 3 rfl) ?_
      refine lv_iload_n X.hx X.hb dX11_seek_3 rfl (lv_at hl 2 rfl) ?_
      refine lv_icmp_ge (tgt := 31) X.hx X.hb dX11_seek_4 (by decide) (fun hc_3 => ?_) (fun hc_3 => ?_)
      · replace hf := if_t hf hc_3
        refine lv_iconst (v := (-1)) X.hx X.hb dX11_seek_31 (by decide) ?_
        cases hf
        subst hQ
        exact r_iret X hP hD hS dX11_seek_32
      · replace hf := if_f hf hc_3
        refine lv_aload_n X.hx X.hb dX11_seek_7 rfl (lv_at hl 0 rfl) ?_
        refine gf_X11_43 X hP 0 rfl (v := .ref (uY 10)) rfl dX11_seek_8 ?_
        refine lv_iload_n X.hx X.hb dX11_seek_11 rfl (lv_at hl 1 rfl) ?_
        refine lv_iload_n X.hx X.hb dX11_seek_12 rfl (lv_at hl 3 rfl) ?_
        refine lv_iadd X.hx X.hb dX11_seek_13 ?_
        obtain ⟨hi_4, hf⟩ := ck_i hf
        refine r_lald X hP 5 (f := (tY 9)) rfl hi_4 dX11_seek_14 ?_
        refine lv_aload_n X.hx X.hb dX11_seek_15 rfl (lv_at hl 0 rfl) ?_
        refine gf_X11_170 X hP 0 rfl (v := .long (jY 17)) rfl dX11_seek_16 ?_
        refine W.lcmp X.hx X.hb dX11_seek_19 ?_
        refine lv_if_ne (tgt := 25) X.hx X.hb dX11_seek_20 (by decide) (fun hc_5 => ?_) (fun hc_5 => ?_)
        · replace hf := if_f hf hc_5
          refine lv_iinc (v := (v3_2 + 1)) (lv' := [(3, .int (v3_2 + 1)), (0, .ref (uY 0)), (1, .int p1), (2, .int p2)]) X.hx X.hb dX11_seek_25 hl (k := 3) rfl rfl (by decide) rfl (fun ls hl => ?_)
          refine lv_goto (tgt := 2) X.hx X.hb dX11_seek_28 (by decide) ?_
          exact ih _ _ _ _ hf hP hD hS (lv_sub hl [1, 2, 3, 0] rfl)
        · replace hf := if_t hf hc_5
          refine lv_iload_n X.hx X.hb dX11_seek_23 rfl (lv_at hl 3 rfl) ?_
          cases hf
          subst hQ
          exact r_iret X hP hD hS dX11_seek_24
  exact hlo_1 N _ _ _ _ hf hP hD hS (lv_sub hl [1, 2, 3, 0] rfl)

def f_X11_fresh (N : Nat) (iY : Nat → Int32) (sY : Nat → Nat → Int32) (tY : Nat → Nat → Int64) (jY : Nat → Int64) (p1 : Int32) : Option (Int32 × (Nat → Int32) × (Nat → Nat → Int64) × (Nat → Int64)) :=
  bd (f_X11_isName N iY sY tY jY) (fun r_1 => (if r_1 = 0 then bd (f_X11_bad N iY sY tY jY 1) (fun (r_22, iY_23) => zb r_22 (some (r_22, iY_23, tY, jY))) else bd (f_X11_seek N iY sY tY jY 12 ((sY 7) 0)) (fun r_4 => jn (fun (z : Unit) => match z with | () => bd (f_X11_bad N iY sY tY jY 3) (fun (r_9, iY_10) => zb r_9 (some (r_9, iY_10, tY, jY)))) (fun K_6 => (if (0 : Int32) ≤ r_4 then K_6 () else bd (f_X11_seek N iY sY tY jY 19 ((sY 7) 1)) (fun r_14 => (if r_14 < 0 then ck p1 24 (nv (vp_updL (tY 9) (ix p1) (jY 17)) (fun g_18 => bd (f_X11_next N iY sY (va_up tY 9 g_18) jY) (fun (iY_19, jY_20) => some (1, iY_19, (va_up tY 9 g_18), jY_20)))) else K_6 ())))))))
set_option maxHeartbeats 4000000 in
set_option maxRecDepth 100000 in
theorem c_X11_fresh (l : Launch) (G : GT) (N : Nat) (uY : Nat → Nat) (iY : Nat → Int32) (sY : Nat → Nat → Int32) (tY : Nat → Nat → Int64) (jY : Nat → Int64) (p1 : Int32) {r : Int32} {iY' : Nat → Int32} {tY' : Nat → Nat → Int64} {jY' : Nat → Int64} (hf : f_X11_fresh N iY sY tY jY p1 = some (r, iY', tY', jY')) : CI l G yX11_fresh cX11_fresh 2 .boolean 3 [.ref (uY 0), .int p1] (gY G uY iY sY tY jY) r (gY G uY iY' sY tY' jY') := by
  refine CI.of (by decide) (Nat.le_of_ble_eq_true rfl) ?_
  intro p e s m args below meth c A X hA hP hD hS ls hl
  have hl : lv_has ls 2 [(0, .ref (uY 0)), (1, .int p1)] := hl
  generalize hQ : MQ below (QI G A r (gY G uY iY' sY tY' jY')) args s 0 0 A = QQ
  unfold f_X11_fresh at hf
  refine lv_aload_n X.hx X.hb dX11_fresh_0 rfl (lv_at hl 0 rfl) ?_
  obtain ⟨r_1, hc_2, hf⟩ := bd_i hf
  refine r_wvi (As := []) (rest := []) X sm_X11_200 (c_X11_isName l G N uY iY sY tY jY hc_2) hP hD hS hA 0 rfl rfl rfl hl.1 (lv_room (Nat.le_of_ble_eq_true rfl)) ⟨Nat.le_of_ble_eq_true rfl, Nat.le_of_ble_eq_true rfl⟩ ⟨Nat.zero_le _, Nat.zero_le _⟩ dX11_fresh_1 (fun H locs hP hD hS => ?_)
  refine lv_if_ne (tgt := 13) X.hx X.hb dX11_fresh_4 (by decide) (fun hc_3 => ?_) (fun hc_3 => ?_)
  · replace hf := if_f hf hc_3
    refine lv_aload_n X.hx X.hb dX11_fresh_13 rfl (lv_at hl 0 rfl) ?_
    refine lv_bipush (v := 12) X.hx X.hb dX11_fresh_14 (by decide) ?_
    refine lv_aload_n X.hx X.hb dX11_fresh_16 rfl (lv_at hl 0 rfl) ?_
    refine gf_X11_37 X hP 0 rfl (v := .ref (uY 8)) rfl dX11_fresh_17 ?_
    refine lv_iconst (v := 0) X.hx X.hb dX11_fresh_20 (by decide) ?_
    refine r_iald X hP 3 (f := (sY 7)) rfl (vp_c rfl) dX11_fresh_21 ?_
    refine W.eq (g2 := F0 m 22 ls [.int ((sY 7) 0), .int 12, .ref (uY 0)]) rfl ?_
    obtain ⟨r_4, hc_5, hf⟩ := bd_i hf
    refine r_wvi (As := [.int 12, .int ((sY 7) 0)]) (rest := []) X sm_X11_204 (c_X11_seek l G N uY iY sY tY jY 12 ((sY 7) 0) hc_5) hP hD hS hA 0 rfl rfl rfl hl.1 (lv_room (Nat.le_of_ble_eq_true rfl)) ⟨Nat.le_of_ble_eq_true rfl, Nat.le_of_ble_eq_true rfl⟩ ⟨Nat.zero_le _, Nat.zero_le _⟩ dX11_fresh_22 (fun H locs hP hD hS => ?_)
    obtain ⟨K_6, eK_8, hf⟩ := jn_i hf
    have hj_7 : ∀ (H : Heap) (locs : List Loc) (ls : Array Slot), K_6 () = some (r, iY', tY', jY') → va_P G.1 vwCl (gY G uY iY sY tY jY) H → va_D A (gY G uY iY sY tY jY) → va_S A s.heap H locs → lv_has ls 2 [(0, .ref (uY 0))] → W p l e (RM 3) s m args below meth c H locs 0 0 QQ (F0 m 43 ls []) := by
      intro  H locs ls hf hP hD hS hl
      rw [eK_8] at hf
      try dsimp only at hf
      refine lv_aload_n X.hx X.hb dX11_fresh_43 rfl (lv_at hl 0 rfl) ?_
      refine lv_iconst (v := 3) X.hx X.hb dX11_fresh_44 (by decide) ?_
      obtain ⟨⟨r_9, iY_10⟩, hc_11, hf⟩ := bd_i hf
      refine r_wvi (As := [.int 3]) (rest := []) X sm_X11_183 (c_X11_bad l G N uY iY sY tY jY 3 hc_11) hP hD hS hA 0 rfl rfl rfl hl.1 (lv_room (Nat.le_of_ble_eq_true rfl)) ⟨Nat.le_of_ble_eq_true rfl, Nat.le_of_ble_eq_true rfl⟩ ⟨Nat.zero_le _, Nat.zero_le _⟩ dX11_fresh_45 (fun H locs hP hD hS => ?_)
      obtain ⟨hb_12, hf⟩ := zb_i hf
      cases hf
      subst hQ
      exact r_zret X hP hD hS hb_12 dX11_fresh_48
    refine lv_if_ge (tgt := 43) X.hx X.hb dX11_fresh_25 (by decide) (fun hc_13 => ?_) (fun hc_13 => ?_)
    · replace hf := if_t hf hc_13
      exact hj_7 _ _ _ hf hP hD hS (lv_sub hl [0] rfl)
    · replace hf := if_f hf hc_13
      refine lv_aload_n X.hx X.hb dX11_fresh_28 rfl (lv_at hl 0 rfl) ?_
      refine lv_bipush (v := 19) X.hx X.hb dX11_fresh_29 (by decide) ?_
      refine lv_aload_n X.hx X.hb dX11_fresh_31 rfl (lv_at hl 0 rfl) ?_
      refine gf_X11_37 X hP 0 rfl (v := .ref (uY 8)) rfl dX11_fresh_32 ?_
      refine lv_iconst (v := 1) X.hx X.hb dX11_fresh_35 (by decide) ?_
      refine r_iald X hP 3 (f := (sY 7)) rfl (vp_c rfl) dX11_fresh_36 ?_
      refine W.eq (g2 := F0 m 37 ls [.int ((sY 7) 1), .int 19, .ref (uY 0)]) rfl ?_
      obtain ⟨r_14, hc_15, hf⟩ := bd_i hf
      refine r_wvi (As := [.int 19, .int ((sY 7) 1)]) (rest := []) X sm_X11_204 (c_X11_seek l G N uY iY sY tY jY 19 ((sY 7) 1) hc_15) hP hD hS hA 0 rfl rfl rfl hl.1 (lv_room (Nat.le_of_ble_eq_true rfl)) ⟨Nat.le_of_ble_eq_true rfl, Nat.le_of_ble_eq_true rfl⟩ ⟨Nat.zero_le _, Nat.zero_le _⟩ dX11_fresh_37 (fun H locs hP hD hS => ?_)
      refine lv_if_lt (tgt := 49) X.hx X.hb dX11_fresh_40 (by decide) (fun hc_16 => ?_) (fun hc_16 => ?_)
      · replace hf := if_t hf hc_16
        refine lv_aload_n X.hx X.hb dX11_fresh_49 rfl (lv_at hl 0 rfl) ?_
        refine gf_X11_43 X hP 0 rfl (v := .ref (uY 10)) rfl dX11_fresh_50 ?_
        refine lv_iload_n X.hx X.hb dX11_fresh_53 rfl (lv_at hl 1 rfl) ?_
        refine lv_aload_n X.hx X.hb dX11_fresh_54 rfl (lv_at hl 0 rfl) ?_
        refine gf_X11_170 X hP 0 rfl (v := .long (jY 17)) rfl dX11_fresh_55 ?_
        obtain ⟨hi_17, hf⟩ := ck_i hf
        obtain ⟨g_18, eg_18, hf⟩ := nv_i hf
        refine r_last X hP hD hS 5 (f := (tY 9)) rfl hi_17 (wo := (gY G uY iY sY (va_up tY 9 g_18) jY)) (by subst eg_18; rfl) dX11_fresh_58 (fun H locs hP hD hS => ?_)
        refine lv_aload_n X.hx X.hb dX11_fresh_59 rfl (lv_at hl 0 rfl) ?_
        obtain ⟨⟨iY_19, jY_20⟩, hc_21, hf⟩ := bd_i hf
        refine r_wvv (As := []) (rest := []) X sm_X11_186 (c_X11_next l G N uY iY sY (va_up tY 9 g_18) jY hc_21) hP hD hS hA 0 rfl rfl rfl hl.1 (lv_room (Nat.le_of_ble_eq_true rfl)) ⟨Nat.le_of_ble_eq_true rfl, Nat.le_of_ble_eq_true rfl⟩ ⟨Nat.zero_le _, Nat.zero_le _⟩ dX11_fresh_60 (fun H locs hP hD hS => ?_)
        refine lv_iconst (v := 1) X.hx X.hb dX11_fresh_63 (by decide) ?_
        cases hf
        subst hQ
        exact r_zret X hP hD hS (by decide) dX11_fresh_64
      · replace hf := if_f hf hc_16
        exact hj_7 _ _ _ hf hP hD hS (lv_sub hl [0] rfl)
  · replace hf := if_t hf hc_3
    refine lv_aload_n X.hx X.hb dX11_fresh_7 rfl (lv_at hl 0 rfl) ?_
    refine lv_iconst (v := 1) X.hx X.hb dX11_fresh_8 (by decide) ?_
    obtain ⟨⟨r_22, iY_23⟩, hc_24, hf⟩ := bd_i hf
    refine r_wvi (As := [.int 1]) (rest := []) X sm_X11_183 (c_X11_bad l G N uY iY sY tY jY 1 hc_24) hP hD hS hA 0 rfl rfl rfl hl.1 (lv_room (Nat.le_of_ble_eq_true rfl)) ⟨Nat.le_of_ble_eq_true rfl, Nat.le_of_ble_eq_true rfl⟩ ⟨Nat.zero_le _, Nat.zero_le _⟩ dX11_fresh_9 (fun H locs hP hD hS => ?_)
    obtain ⟨hb_25, hf⟩ := zb_i hf
    cases hf
    subst hQ
    exact r_zret X hP hD hS hb_25 dX11_fresh_12

def f_X11_looksAt (N : Nat) (iY : Nat → Int32) (sY : Nat → Nat → Int32) (tY : Nat → Nat → Int64) (jY : Nat → Int64) (p1 : Int32) (p2 : Int32) : Option (Int32 × (Nat → Int32)) :=
  bd (f_X11_isName N iY sY tY jY) (fun r_1 => (if r_1 = 0 then bd (f_X11_bad N iY sY tY jY 1) (fun (r_11, iY_12) => zb r_11 (some (r_11, iY_12))) else bd (f_X11_seek N iY sY tY jY p1 p2) (fun r_4 => (if (0 : Int32) ≤ r_4 then some (1, (va_up iY 18 r_4)) else bd (f_X11_bad N (va_up iY 18 r_4) sY tY jY 3) (fun (r_7, iY_8) => (if r_7 = 0 then some (0, iY_8) else some (1, iY_8)))))))
set_option maxHeartbeats 4000000 in
set_option maxRecDepth 100000 in
theorem c_X11_looksAt (l : Launch) (G : GT) (N : Nat) (uY : Nat → Nat) (iY : Nat → Int32) (sY : Nat → Nat → Int32) (tY : Nat → Nat → Int64) (jY : Nat → Int64) (p1 : Int32) (p2 : Int32) {r : Int32} {iY' : Nat → Int32} (hf : f_X11_looksAt N iY sY tY jY p1 p2 = some (r, iY')) : CI l G yX11_looksAt cX11_looksAt 3 .boolean 2 [.ref (uY 0), .int p1, .int p2] (gY G uY iY sY tY jY) r (gY G uY iY' sY tY jY) := by
  refine CI.of (by decide) (Nat.le_of_ble_eq_true rfl) ?_
  intro p e s m args below meth c A X hA hP hD hS ls hl
  have hl : lv_has ls 3 [(0, .ref (uY 0)), (1, .int p1), (2, .int p2)] := hl
  generalize hQ : MQ below (QI G A r (gY G uY iY' sY tY jY)) args s 0 0 A = QQ
  unfold f_X11_looksAt at hf
  refine lv_aload_n X.hx X.hb dX11_looksAt_0 rfl (lv_at hl 0 rfl) ?_
  obtain ⟨r_1, hc_2, hf⟩ := bd_i hf
  refine r_wvi (As := []) (rest := []) X sm_X11_200 (c_X11_isName l G N uY iY sY tY jY hc_2) hP hD hS hA 0 rfl rfl rfl hl.1 (lv_room (Nat.le_of_ble_eq_true rfl)) ⟨Nat.le_of_ble_eq_true rfl, Nat.le_of_ble_eq_true rfl⟩ ⟨Nat.zero_le _, Nat.zero_le _⟩ dX11_looksAt_1 (fun H locs hP hD hS => ?_)
  refine lv_if_ne (tgt := 13) X.hx X.hb dX11_looksAt_4 (by decide) (fun hc_3 => ?_) (fun hc_3 => ?_)
  · replace hf := if_f hf hc_3
    refine lv_aload_n X.hx X.hb dX11_looksAt_13 rfl (lv_at hl 0 rfl) ?_
    refine lv_aload_n X.hx X.hb dX11_looksAt_14 rfl (lv_at hl 0 rfl) ?_
    refine lv_iload_n X.hx X.hb dX11_looksAt_15 rfl (lv_at hl 1 rfl) ?_
    refine lv_iload_n X.hx X.hb dX11_looksAt_16 rfl (lv_at hl 2 rfl) ?_
    obtain ⟨r_4, hc_5, hf⟩ := bd_i hf
    refine r_wvi (As := [.int p1, .int p2]) (rest := [.ref (uY 0)]) X sm_X11_204 (c_X11_seek l G N uY iY sY tY jY p1 p2 hc_5) hP hD hS hA 0 rfl rfl rfl hl.1 (lv_room (Nat.le_of_ble_eq_true rfl)) ⟨Nat.le_of_ble_eq_true rfl, Nat.le_of_ble_eq_true rfl⟩ ⟨Nat.zero_le _, Nat.zero_le _⟩ dX11_looksAt_17 (fun H locs hP hD hS => ?_)
    refine pf_X11_193 X hP hD hS 0 rfl rfl rfl (Nat.le_of_ble_eq_true rfl) (wo := (gY G uY (va_up iY 18 r_4) sY tY jY)) rfl dX11_looksAt_20 (fun H locs hP hD hS => ?_)
    refine lv_aload_n X.hx X.hb dX11_looksAt_23 rfl (lv_at hl 0 rfl) ?_
    refine gf_X11_193 X hP 0 rfl (v := .int r_4) rfl dX11_looksAt_24 ?_
    refine lv_if_ge (tgt := 38) X.hx X.hb dX11_looksAt_27 (by decide) (fun hc_6 => ?_) (fun hc_6 => ?_)
    · replace hf := if_t hf hc_6
      refine lv_iconst (v := 1) X.hx X.hb dX11_looksAt_38 (by decide) ?_
      refine lv_goto (tgt := 43) X.hx X.hb dX11_looksAt_39 (by decide) ?_
      cases hf
      subst hQ
      exact r_zret X hP hD hS (by decide) dX11_looksAt_43
    · replace hf := if_f hf hc_6
      refine lv_aload_n X.hx X.hb dX11_looksAt_30 rfl (lv_at hl 0 rfl) ?_
      refine lv_iconst (v := 3) X.hx X.hb dX11_looksAt_31 (by decide) ?_
      obtain ⟨⟨r_7, iY_8⟩, hc_9, hf⟩ := bd_i hf
      refine r_wvi (As := [.int 3]) (rest := []) X sm_X11_183 (c_X11_bad l G N uY (va_up iY 18 r_4) sY tY jY 3 hc_9) hP hD hS hA 0 rfl rfl rfl hl.1 (lv_room (Nat.le_of_ble_eq_true rfl)) ⟨Nat.le_of_ble_eq_true rfl, Nat.le_of_ble_eq_true rfl⟩ ⟨Nat.zero_le _, Nat.zero_le _⟩ dX11_looksAt_32 (fun H locs hP hD hS => ?_)
      refine lv_if_eq (tgt := 42) X.hx X.hb dX11_looksAt_35 (by decide) (fun hc_10 => ?_) (fun hc_10 => ?_)
      · replace hf := if_t hf hc_10
        refine lv_iconst (v := 0) X.hx X.hb dX11_looksAt_42 (by decide) ?_
        cases hf
        subst hQ
        exact r_zret X hP hD hS (by decide) dX11_looksAt_43
      · replace hf := if_f hf hc_10
        refine lv_iconst (v := 1) X.hx X.hb dX11_looksAt_38 (by decide) ?_
        refine lv_goto (tgt := 43) X.hx X.hb dX11_looksAt_39 (by decide) ?_
        cases hf
        subst hQ
        exact r_zret X hP hD hS (by decide) dX11_looksAt_43
  · replace hf := if_t hf hc_3
    refine lv_aload_n X.hx X.hb dX11_looksAt_7 rfl (lv_at hl 0 rfl) ?_
    refine lv_iconst (v := 1) X.hx X.hb dX11_looksAt_8 (by decide) ?_
    obtain ⟨⟨r_11, iY_12⟩, hc_13, hf⟩ := bd_i hf
    refine r_wvi (As := [.int 1]) (rest := []) X sm_X11_183 (c_X11_bad l G N uY iY sY tY jY 1 hc_13) hP hD hS hA 0 rfl rfl rfl hl.1 (lv_room (Nat.le_of_ble_eq_true rfl)) ⟨Nat.le_of_ble_eq_true rfl, Nat.le_of_ble_eq_true rfl⟩ ⟨Nat.zero_le _, Nat.zero_le _⟩ dX11_looksAt_9 (fun H locs hP hD hS => ?_)
    obtain ⟨hb_14, hf⟩ := zb_i hf
    cases hf
    subst hQ
    exact r_zret X hP hD hS hb_14 dX11_looksAt_12

def f_X11_takesName (N : Nat) (iY : Nat → Int32) (sY : Nat → Nat → Int32) (tY : Nat → Nat → Int64) (jY : Nat → Int64) (p1 : Int32) (p2 : Int32) : Option (Int32 × (Nat → Int32) × (Nat → Int64)) :=
  bd (f_X11_looksAt N iY sY tY jY p1 p2) (fun (r_1, iY_2) => (if r_1 = 0 then some (0, iY_2, jY) else bd (f_X11_next N iY_2 sY tY jY) (fun (iY_5, jY_6) => some (1, iY_5, jY_6))))
set_option maxHeartbeats 4000000 in
set_option maxRecDepth 100000 in
theorem c_X11_takesName (l : Launch) (G : GT) (N : Nat) (uY : Nat → Nat) (iY : Nat → Int32) (sY : Nat → Nat → Int32) (tY : Nat → Nat → Int64) (jY : Nat → Int64) (p1 : Int32) (p2 : Int32) {r : Int32} {iY' : Nat → Int32} {jY' : Nat → Int64} (hf : f_X11_takesName N iY sY tY jY p1 p2 = some (r, iY', jY')) : CI l G yX11_takesName cX11_takesName 3 .boolean 3 [.ref (uY 0), .int p1, .int p2] (gY G uY iY sY tY jY) r (gY G uY iY' sY tY jY') := by
  refine CI.of (by decide) (Nat.le_of_ble_eq_true rfl) ?_
  intro p e s m args below meth c A X hA hP hD hS ls hl
  have hl : lv_has ls 3 [(0, .ref (uY 0)), (1, .int p1), (2, .int p2)] := hl
  generalize hQ : MQ below (QI G A r (gY G uY iY' sY tY jY')) args s 0 0 A = QQ
  unfold f_X11_takesName at hf
  refine lv_aload_n X.hx X.hb dX11_takesName_0 rfl (lv_at hl 0 rfl) ?_
  refine lv_iload_n X.hx X.hb dX11_takesName_1 rfl (lv_at hl 1 rfl) ?_
  refine lv_iload_n X.hx X.hb dX11_takesName_2 rfl (lv_at hl 2 rfl) ?_
  obtain ⟨⟨r_1, iY_2⟩, hc_3, hf⟩ := bd_i hf
  refine r_wvi (As := [.int p1, .int p2]) (rest := []) X sm_X11_208 (c_X11_looksAt l G N uY iY sY tY jY p1 p2 hc_3) hP hD hS hA 0 rfl rfl rfl hl.1 (lv_room (Nat.le_of_ble_eq_true rfl)) ⟨Nat.le_of_ble_eq_true rfl, Nat.le_of_ble_eq_true rfl⟩ ⟨Nat.zero_le _, Nat.zero_le _⟩ dX11_takesName_3 (fun H locs hP hD hS => ?_)
  refine lv_if_ne (tgt := 11) X.hx X.hb dX11_takesName_6 (by decide) (fun hc_4 => ?_) (fun hc_4 => ?_)
  · replace hf := if_f hf hc_4
    refine lv_aload_n X.hx X.hb dX11_takesName_11 rfl (lv_at hl 0 rfl) ?_
    obtain ⟨⟨iY_5, jY_6⟩, hc_7, hf⟩ := bd_i hf
    refine r_wvv (As := []) (rest := []) X sm_X11_186 (c_X11_next l G N uY iY_2 sY tY jY hc_7) hP hD hS hA 0 rfl rfl rfl hl.1 (lv_room (Nat.le_of_ble_eq_true rfl)) ⟨Nat.le_of_ble_eq_true rfl, Nat.le_of_ble_eq_true rfl⟩ ⟨Nat.zero_le _, Nat.zero_le _⟩ dX11_takesName_12 (fun H locs hP hD hS => ?_)
    refine lv_iconst (v := 1) X.hx X.hb dX11_takesName_15 (by decide) ?_
    cases hf
    subst hQ
    exact r_zret X hP hD hS (by decide) dX11_takesName_16
  · replace hf := if_t hf hc_4
    refine lv_iconst (v := 0) X.hx X.hb dX11_takesName_9 (by decide) ?_
    cases hf
    subst hQ
    exact r_zret X hP hD hS (by decide) dX11_takesName_10

def f_X11_once (N : Nat) (iY : Nat → Int32) (sY : Nat → Nat → Int32) (tY : Nat → Nat → Int64) (jY : Nat → Int64) (p1 : Int32) (p2 : Int32) (p3 : Int32) (p4 : Int32) : Option (Int32 × (Nat → Int32) × (Nat → Nat → Int32) × (Nat → Int64)) :=
  bd (f_X11_bitOf N (iY 20) p1) (fun r_1 => (if r_1 = 0 then nv ((iY 20) ||| ((1 : Int32) <<< (p1 &&& 31))) (fun n_4 => bd (f_X11_next N (va_up iY 20 n_4) sY tY jY) (fun (iY_5, jY_6) => bd (f_X11_puts N iY_5 sY tY jY_6 p2 p3 p4) (fun (r_8, iY_9, sY_10, jY_11) => zb r_8 (some (r_8, iY_9, sY_10, jY_11))))) else bd (f_X11_bad N iY sY tY jY 3) (fun (r_14, iY_15) => zb r_14 (some (r_14, iY_15, sY, jY)))))
set_option maxHeartbeats 4000000 in
set_option maxRecDepth 100000 in
theorem c_X11_once (l : Launch) (G : GT) (N : Nat) (uY : Nat → Nat) (iY : Nat → Int32) (sY : Nat → Nat → Int32) (tY : Nat → Nat → Int64) (jY : Nat → Int64) (p1 : Int32) (p2 : Int32) (p3 : Int32) (p4 : Int32) {r : Int32} {iY' : Nat → Int32} {sY' : Nat → Nat → Int32} {jY' : Nat → Int64} (hf : f_X11_once N iY sY tY jY p1 p2 p3 p4 = some (r, iY', sY', jY')) : CI l G yX11_once cX11_once 5 .boolean 5 [.ref (uY 0), .int p1, .int p2, .int p3, .int p4] (gY G uY iY sY tY jY) r (gY G uY iY' sY' tY jY') := by
  refine CI.of (by decide) (Nat.le_of_ble_eq_true rfl) ?_
  intro p e s m args below meth c A X hA hP hD hS ls hl
  have hl : lv_has ls 5 [(0, .ref (uY 0)), (1, .int p1), (2, .int p2), (3, .int p3), (4, .int p4)] := hl
  generalize hQ : MQ below (QI G A r (gY G uY iY' sY' tY jY')) args s 0 0 A = QQ
  unfold f_X11_once at hf
  refine lv_aload_n X.hx X.hb dX11_once_0 rfl (lv_at hl 0 rfl) ?_
  refine gf_X11_211 X hP 0 rfl (v := .int (iY 20)) rfl dX11_once_1 ?_
  refine lv_iload_n X.hx X.hb dX11_once_4 rfl (lv_at hl 1 rfl) ?_
  obtain ⟨r_1, hc_2, hf⟩ := bd_i hf
  refine r_cs0 (As := [.int (iY 20), .int p1]) (rest := []) X sm_X11_214 (c_X11_bitOf l G N (iY 20) p1 hc_2) hP hD hS hA rfl hl.1 (lv_room (Nat.le_of_ble_eq_true rfl)) ⟨Nat.le_of_ble_eq_true rfl, Nat.le_of_ble_eq_true rfl⟩ ⟨Nat.zero_le _, Nat.zero_le _⟩ dX11_once_5 (fun H locs hP hD hS => ?_)
  refine lv_if_eq (tgt := 17) X.hx X.hb dX11_once_8 (by decide) (fun hc_3 => ?_) (fun hc_3 => ?_)
  · replace hf := if_t hf hc_3
    refine lv_aload_n X.hx X.hb dX11_once_17 rfl (lv_at hl 0 rfl) ?_
    refine lv_dup X.hx X.hb dX11_once_18 rfl ?_
    refine gf_X11_211 X hP 0 rfl (v := .int (iY 20)) rfl dX11_once_19 ?_
    refine lv_iconst (v := 1) X.hx X.hb dX11_once_22 (by decide) ?_
    refine lv_iload_n X.hx X.hb dX11_once_23 rfl (lv_at hl 1 rfl) ?_
    refine lv_ishl X.hx X.hb dX11_once_24 ?_
    refine lv_ior X.hx X.hb dX11_once_25 ?_
    obtain ⟨n_4, en_4, hf⟩ := nv_i hf
    refine r_nm en_4 ?_
    refine pf_X11_211 X hP hD hS 0 rfl rfl rfl (Nat.le_of_ble_eq_true rfl) (wo := (gY G uY (va_up iY 20 n_4) sY tY jY)) rfl dX11_once_26 (fun H locs hP hD hS => ?_)
    refine lv_aload_n X.hx X.hb dX11_once_29 rfl (lv_at hl 0 rfl) ?_
    obtain ⟨⟨iY_5, jY_6⟩, hc_7, hf⟩ := bd_i hf
    refine r_wvv (As := []) (rest := []) X sm_X11_186 (c_X11_next l G N uY (va_up iY 20 n_4) sY tY jY hc_7) hP hD hS hA 0 rfl rfl rfl hl.1 (lv_room (Nat.le_of_ble_eq_true rfl)) ⟨Nat.le_of_ble_eq_true rfl, Nat.le_of_ble_eq_true rfl⟩ ⟨Nat.zero_le _, Nat.zero_le _⟩ dX11_once_30 (fun H locs hP hD hS => ?_)
    refine lv_aload_n X.hx X.hb dX11_once_33 rfl (lv_at hl 0 rfl) ?_
    refine lv_iload_n X.hx X.hb dX11_once_34 rfl (lv_at hl 2 rfl) ?_
    refine lv_iload_n X.hx X.hb dX11_once_35 rfl (lv_at hl 3 rfl) ?_
    refine lv_iload X.hx X.hb dX11_once_36 (lv_at hl 4 rfl) ?_
    obtain ⟨⟨r_8, iY_9, sY_10, jY_11⟩, hc_12, hf⟩ := bd_i hf
    refine r_wvi (As := [.int p2, .int p3, .int p4]) (rest := []) X sm_X11_217 (c_X11_puts l G N uY iY_5 sY tY jY_6 p2 p3 p4 hc_12) hP hD hS hA 0 rfl rfl rfl hl.1 (lv_room (Nat.le_of_ble_eq_true rfl)) ⟨Nat.le_of_ble_eq_true rfl, Nat.le_of_ble_eq_true rfl⟩ ⟨Nat.zero_le _, Nat.zero_le _⟩ dX11_once_38 (fun H locs hP hD hS => ?_)
    obtain ⟨hb_13, hf⟩ := zb_i hf
    cases hf
    subst hQ
    exact r_zret X hP hD hS hb_13 dX11_once_41
  · replace hf := if_f hf hc_3
    refine lv_aload_n X.hx X.hb dX11_once_11 rfl (lv_at hl 0 rfl) ?_
    refine lv_iconst (v := 3) X.hx X.hb dX11_once_12 (by decide) ?_
    obtain ⟨⟨r_14, iY_15⟩, hc_16, hf⟩ := bd_i hf
    refine r_wvi (As := [.int 3]) (rest := []) X sm_X11_183 (c_X11_bad l G N uY iY sY tY jY 3 hc_16) hP hD hS hA 0 rfl rfl rfl hl.1 (lv_room (Nat.le_of_ble_eq_true rfl)) ⟨Nat.le_of_ble_eq_true rfl, Nat.le_of_ble_eq_true rfl⟩ ⟨Nat.zero_le _, Nat.zero_le _⟩ dX11_once_13 (fun H locs hP hD hS => ?_)
    obtain ⟨hb_17, hf⟩ := zb_i hf
    cases hf
    subst hQ
    exact r_zret X hP hD hS hb_17 dX11_once_16

def f_X11_readPerson (N : Nat) (iY : Nat → Int32) (sY : Nat → Nat → Int32) (tY : Nat → Nat → Int64) (jY : Nat → Int64) : Option (Int32 × (Nat → Int32) × (Nat → Nat → Int32) × (Nat → Nat → Int64) × (Nat → Int64)) :=
  (if ((sY 7) 0) = 7 then bd (f_X11_bad N iY sY tY jY 4) (fun (r_18, iY_19) => zb r_18 (some (r_18, iY_19, sY, tY, jY))) else bd (f_X11_next N iY sY tY jY) (fun (iY_2, jY_3) => bd (f_X11_fresh N iY_2 sY tY jY_3 ((12 : Int32) + ((sY 7) 0))) (fun (r_5, iY_6, tY_7, jY_8) => (if r_5 = 0 then some (0, iY_6, sY, tY_7, jY_8) else bd (f_X11_puts N iY_6 sY tY_7 jY_8 ((5 : Int32) + ((sY 7) 0)) 0 99) (fun (r_11, iY_12, sY_13, jY_14) => (if r_11 = 0 then some (0, iY_12, sY_13, tY_7, jY_14) else nv (upd (sY_13 7) 0 (((sY_13 7) 0) + 1)) (fun g_17 => some (1, iY_12, (va_up sY_13 7 g_17), tY_7, jY_14))))))))
set_option maxHeartbeats 4000000 in
set_option maxRecDepth 100000 in
theorem c_X11_readPerson (l : Launch) (G : GT) (N : Nat) (uY : Nat → Nat) (iY : Nat → Int32) (sY : Nat → Nat → Int32) (tY : Nat → Nat → Int64) (jY : Nat → Int64) {r : Int32} {iY' : Nat → Int32} {sY' : Nat → Nat → Int32} {tY' : Nat → Nat → Int64} {jY' : Nat → Int64} (hf : f_X11_readPerson N iY sY tY jY = some (r, iY', sY', tY', jY')) : CI l G yX11_readPerson cX11_readPerson 2 .boolean 5 [.ref (uY 0)] (gY G uY iY sY tY jY) r (gY G uY iY' sY' tY' jY') := by
  refine CI.of (by decide) (Nat.le_of_ble_eq_true rfl) ?_
  intro p e s m args below meth c A X hA hP hD hS ls hl
  have hl : lv_has ls 2 [(0, .ref (uY 0))] := hl
  generalize hQ : MQ below (QI G A r (gY G uY iY' sY' tY' jY')) args s 0 0 A = QQ
  unfold f_X11_readPerson at hf
  refine lv_aload_n X.hx X.hb dX11_readPerson_0 rfl (lv_at hl 0 rfl) ?_
  refine gf_X11_37 X hP 0 rfl (v := .ref (uY 8)) rfl dX11_readPerson_1 ?_
  refine lv_iconst (v := 0) X.hx X.hb dX11_readPerson_4 (by decide) ?_
  refine r_iald X hP 3 (f := (sY 7)) rfl (vp_c rfl) dX11_readPerson_5 ?_
  refine W.eq (g2 := F0 m 6 ls [.int ((sY 7) 0)]) rfl ?_
  refine lv_istore_n (lv' := [(1, .int ((sY 7) 0)), (0, .ref (uY 0))]) X.hx X.hb dX11_readPerson_6 rfl hl (by decide) rfl (fun ls hl => ?_)
  refine lv_iload_n X.hx X.hb dX11_readPerson_7 rfl (lv_at hl 0 rfl) ?_
  refine lv_bipush (v := 7) X.hx X.hb dX11_readPerson_8 (by decide) ?_
  refine lv_icmp_ne (tgt := 19) X.hx X.hb dX11_readPerson_10 (by decide) (fun hc_1 => ?_) (fun hc_1 => ?_)
  · replace hf := if_f hf hc_1
    refine lv_aload_n X.hx X.hb dX11_readPerson_19 rfl (lv_at hl 1 rfl) ?_
    obtain ⟨⟨iY_2, jY_3⟩, hc_4, hf⟩ := bd_i hf
    refine r_wvv (As := []) (rest := []) X sm_X11_186 (c_X11_next l G N uY iY sY tY jY hc_4) hP hD hS hA 0 rfl rfl rfl hl.1 (lv_room (Nat.le_of_ble_eq_true rfl)) ⟨Nat.le_of_ble_eq_true rfl, Nat.le_of_ble_eq_true rfl⟩ ⟨Nat.zero_le _, Nat.zero_le _⟩ dX11_readPerson_20 (fun H locs hP hD hS => ?_)
    refine lv_aload_n X.hx X.hb dX11_readPerson_23 rfl (lv_at hl 1 rfl) ?_
    refine lv_bipush (v := 12) X.hx X.hb dX11_readPerson_24 (by decide) ?_
    refine lv_iload_n X.hx X.hb dX11_readPerson_26 rfl (lv_at hl 0 rfl) ?_
    refine lv_iadd X.hx X.hb dX11_readPerson_27 ?_
    obtain ⟨⟨r_5, iY_6, tY_7, jY_8⟩, hc_9, hf⟩ := bd_i hf
    refine r_wvi (As := [.int ((12 : Int32) + ((sY 7) 0))]) (rest := []) X sm_X11_241 (c_X11_fresh l G N uY iY_2 sY tY jY_3 ((12 : Int32) + ((sY 7) 0)) hc_9) hP hD hS hA 0 rfl rfl rfl hl.1 (lv_room (Nat.le_of_ble_eq_true rfl)) ⟨Nat.le_of_ble_eq_true rfl, Nat.le_of_ble_eq_true rfl⟩ ⟨Nat.zero_le _, Nat.zero_le _⟩ dX11_readPerson_28 (fun H locs hP hD hS => ?_)
    refine lv_if_eq (tgt := 47) X.hx X.hb dX11_readPerson_31 (by decide) (fun hc_10 => ?_) (fun hc_10 => ?_)
    · replace hf := if_t hf hc_10
      refine lv_iconst (v := 0) X.hx X.hb dX11_readPerson_47 (by decide) ?_
      cases hf
      subst hQ
      exact r_zret X hP hD hS (by decide) dX11_readPerson_48
    · replace hf := if_f hf hc_10
      refine lv_aload_n X.hx X.hb dX11_readPerson_34 rfl (lv_at hl 1 rfl) ?_
      refine lv_iconst (v := 5) X.hx X.hb dX11_readPerson_35 (by decide) ?_
      refine lv_iload_n X.hx X.hb dX11_readPerson_36 rfl (lv_at hl 0 rfl) ?_
      refine lv_iadd X.hx X.hb dX11_readPerson_37 ?_
      refine lv_iconst (v := 0) X.hx X.hb dX11_readPerson_38 (by decide) ?_
      refine lv_bipush (v := 99) X.hx X.hb dX11_readPerson_39 (by decide) ?_
      obtain ⟨⟨r_11, iY_12, sY_13, jY_14⟩, hc_15, hf⟩ := bd_i hf
      refine r_wvi (As := [.int ((5 : Int32) + ((sY 7) 0)), .int 0, .int 99]) (rest := []) X sm_X11_217 (c_X11_puts l G N uY iY_6 sY tY_7 jY_8 ((5 : Int32) + ((sY 7) 0)) 0 99 hc_15) hP hD hS hA 0 rfl rfl rfl hl.1 (lv_room (Nat.le_of_ble_eq_true rfl)) ⟨Nat.le_of_ble_eq_true rfl, Nat.le_of_ble_eq_true rfl⟩ ⟨Nat.zero_le _, Nat.zero_le _⟩ dX11_readPerson_41 (fun H locs hP hD hS => ?_)
      refine lv_if_ne (tgt := 49) X.hx X.hb dX11_readPerson_44 (by decide) (fun hc_16 => ?_) (fun hc_16 => ?_)
      · replace hf := if_f hf hc_16
        refine lv_aload_n X.hx X.hb dX11_readPerson_49 rfl (lv_at hl 1 rfl) ?_
        refine gf_X11_37 X hP 0 rfl (v := .ref (uY 8)) rfl dX11_readPerson_50 ?_
        refine lv_iconst (v := 0) X.hx X.hb dX11_readPerson_53 (by decide) ?_
        refine lv_dup2_11 X.hx X.hb dX11_readPerson_54 rfl rfl ?_
        refine r_iald X hP 3 (f := (sY_13 7)) rfl (vp_c rfl) dX11_readPerson_55 ?_
        refine W.eq (g2 := F0 m 56 ls [.int ((sY_13 7) 0), .int 0, .ref (uY 8)]) rfl ?_
        refine lv_iconst (v := 1) X.hx X.hb dX11_readPerson_56 (by decide) ?_
        refine lv_iadd X.hx X.hb dX11_readPerson_57 ?_
        obtain ⟨g_17, eg_17, hf⟩ := nv_i hf
        refine r_iast X hP hD hS 3 (f := (sY_13 7)) rfl (vp_c rfl) (wo := (gY G uY iY_12 (va_up sY_13 7 g_17) tY_7 jY_14)) (by subst eg_17; rfl) dX11_readPerson_58 (fun H locs hP hD hS => ?_)
        refine lv_iconst (v := 1) X.hx X.hb dX11_readPerson_59 (by decide) ?_
        cases hf
        subst hQ
        exact r_zret X hP hD hS (by decide) dX11_readPerson_60
      · replace hf := if_t hf hc_16
        refine lv_iconst (v := 0) X.hx X.hb dX11_readPerson_47 (by decide) ?_
        cases hf
        subst hQ
        exact r_zret X hP hD hS (by decide) dX11_readPerson_48
  · replace hf := if_t hf hc_1
    refine lv_aload_n X.hx X.hb dX11_readPerson_13 rfl (lv_at hl 1 rfl) ?_
    refine lv_iconst (v := 4) X.hx X.hb dX11_readPerson_14 (by decide) ?_
    obtain ⟨⟨r_18, iY_19⟩, hc_20, hf⟩ := bd_i hf
    refine r_wvi (As := [.int 4]) (rest := []) X sm_X11_183 (c_X11_bad l G N uY iY sY tY jY 4 hc_20) hP hD hS hA 0 rfl rfl rfl hl.1 (lv_room (Nat.le_of_ble_eq_true rfl)) ⟨Nat.le_of_ble_eq_true rfl, Nat.le_of_ble_eq_true rfl⟩ ⟨Nat.zero_le _, Nat.zero_le _⟩ dX11_readPerson_15 (fun H locs hP hD hS => ?_)
    obtain ⟨hb_21, hf⟩ := zb_i hf
    cases hf
    subst hQ
    exact r_zret X hP hD hS hb_21 dX11_readPerson_18

def f_X11_readGood (N : Nat) (iY : Nat → Int32) (sY : Nat → Nat → Int32) (tY : Nat → Nat → Int64) (jY : Nat → Int64) : Option (Int32 × (Nat → Int32) × (Nat → Nat → Int32) × (Nat → Nat → Int64) × (Nat → Int64)) :=
  (if ((sY 7) 1) = 5 then bd (f_X11_bad N iY sY tY jY 4) (fun (r_12, iY_13) => zb r_12 (some (r_12, iY_13, sY, tY, jY))) else bd (f_X11_next N iY sY tY jY) (fun (iY_2, jY_3) => bd (f_X11_fresh N iY_2 sY tY jY_3 ((19 : Int32) + ((sY 7) 1))) (fun (r_5, iY_6, tY_7, jY_8) => (if r_5 = 0 then some (0, iY_6, sY, tY_7, jY_8) else nv (upd (sY 7) 1 (((sY 7) 1) + 1)) (fun g_11 => some (1, iY_6, (va_up sY 7 g_11), tY_7, jY_8))))))
set_option maxHeartbeats 4000000 in
set_option maxRecDepth 100000 in
theorem c_X11_readGood (l : Launch) (G : GT) (N : Nat) (uY : Nat → Nat) (iY : Nat → Int32) (sY : Nat → Nat → Int32) (tY : Nat → Nat → Int64) (jY : Nat → Int64) {r : Int32} {iY' : Nat → Int32} {sY' : Nat → Nat → Int32} {tY' : Nat → Nat → Int64} {jY' : Nat → Int64} (hf : f_X11_readGood N iY sY tY jY = some (r, iY', sY', tY', jY')) : CI l G yX11_readGood cX11_readGood 2 .boolean 4 [.ref (uY 0)] (gY G uY iY sY tY jY) r (gY G uY iY' sY' tY' jY') := by
  refine CI.of (by decide) (Nat.le_of_ble_eq_true rfl) ?_
  intro p e s m args below meth c A X hA hP hD hS ls hl
  have hl : lv_has ls 2 [(0, .ref (uY 0))] := hl
  generalize hQ : MQ below (QI G A r (gY G uY iY' sY' tY' jY')) args s 0 0 A = QQ
  unfold f_X11_readGood at hf
  refine lv_aload_n X.hx X.hb dX11_readGood_0 rfl (lv_at hl 0 rfl) ?_
  refine gf_X11_37 X hP 0 rfl (v := .ref (uY 8)) rfl dX11_readGood_1 ?_
  refine lv_iconst (v := 1) X.hx X.hb dX11_readGood_4 (by decide) ?_
  refine r_iald X hP 3 (f := (sY 7)) rfl (vp_c rfl) dX11_readGood_5 ?_
  refine W.eq (g2 := F0 m 6 ls [.int ((sY 7) 1)]) rfl ?_
  refine lv_istore_n (lv' := [(1, .int ((sY 7) 1)), (0, .ref (uY 0))]) X.hx X.hb dX11_readGood_6 rfl hl (by decide) rfl (fun ls hl => ?_)
  refine lv_iload_n X.hx X.hb dX11_readGood_7 rfl (lv_at hl 0 rfl) ?_
  refine lv_iconst (v := 5) X.hx X.hb dX11_readGood_8 (by decide) ?_
  refine lv_icmp_ne (tgt := 18) X.hx X.hb dX11_readGood_9 (by decide) (fun hc_1 => ?_) (fun hc_1 => ?_)
  · replace hf := if_f hf hc_1
    refine lv_aload_n X.hx X.hb dX11_readGood_18 rfl (lv_at hl 1 rfl) ?_
    obtain ⟨⟨iY_2, jY_3⟩, hc_4, hf⟩ := bd_i hf
    refine r_wvv (As := []) (rest := []) X sm_X11_186 (c_X11_next l G N uY iY sY tY jY hc_4) hP hD hS hA 0 rfl rfl rfl hl.1 (lv_room (Nat.le_of_ble_eq_true rfl)) ⟨Nat.le_of_ble_eq_true rfl, Nat.le_of_ble_eq_true rfl⟩ ⟨Nat.zero_le _, Nat.zero_le _⟩ dX11_readGood_19 (fun H locs hP hD hS => ?_)
    refine lv_aload_n X.hx X.hb dX11_readGood_22 rfl (lv_at hl 1 rfl) ?_
    refine lv_bipush (v := 19) X.hx X.hb dX11_readGood_23 (by decide) ?_
    refine lv_iload_n X.hx X.hb dX11_readGood_25 rfl (lv_at hl 0 rfl) ?_
    refine lv_iadd X.hx X.hb dX11_readGood_26 ?_
    obtain ⟨⟨r_5, iY_6, tY_7, jY_8⟩, hc_9, hf⟩ := bd_i hf
    refine r_wvi (As := [.int ((19 : Int32) + ((sY 7) 1))]) (rest := []) X sm_X11_241 (c_X11_fresh l G N uY iY_2 sY tY jY_3 ((19 : Int32) + ((sY 7) 1)) hc_9) hP hD hS hA 0 rfl rfl rfl hl.1 (lv_room (Nat.le_of_ble_eq_true rfl)) ⟨Nat.le_of_ble_eq_true rfl, Nat.le_of_ble_eq_true rfl⟩ ⟨Nat.zero_le _, Nat.zero_le _⟩ dX11_readGood_27 (fun H locs hP hD hS => ?_)
    refine lv_if_ne (tgt := 35) X.hx X.hb dX11_readGood_30 (by decide) (fun hc_10 => ?_) (fun hc_10 => ?_)
    · replace hf := if_f hf hc_10
      refine lv_aload_n X.hx X.hb dX11_readGood_35 rfl (lv_at hl 1 rfl) ?_
      refine gf_X11_37 X hP 0 rfl (v := .ref (uY 8)) rfl dX11_readGood_36 ?_
      refine lv_iconst (v := 1) X.hx X.hb dX11_readGood_39 (by decide) ?_
      refine lv_dup2_11 X.hx X.hb dX11_readGood_40 rfl rfl ?_
      refine r_iald X hP 3 (f := (sY 7)) rfl (vp_c rfl) dX11_readGood_41 ?_
      refine W.eq (g2 := F0 m 42 ls [.int ((sY 7) 1), .int 1, .ref (uY 8)]) rfl ?_
      refine lv_iconst (v := 1) X.hx X.hb dX11_readGood_42 (by decide) ?_
      refine lv_iadd X.hx X.hb dX11_readGood_43 ?_
      obtain ⟨g_11, eg_11, hf⟩ := nv_i hf
      refine r_iast X hP hD hS 3 (f := (sY 7)) rfl (vp_c rfl) (wo := (gY G uY iY_6 (va_up sY 7 g_11) tY_7 jY_8)) (by subst eg_11; rfl) dX11_readGood_44 (fun H locs hP hD hS => ?_)
      refine lv_iconst (v := 1) X.hx X.hb dX11_readGood_45 (by decide) ?_
      cases hf
      subst hQ
      exact r_zret X hP hD hS (by decide) dX11_readGood_46
    · replace hf := if_t hf hc_10
      refine lv_iconst (v := 0) X.hx X.hb dX11_readGood_33 (by decide) ?_
      cases hf
      subst hQ
      exact r_zret X hP hD hS (by decide) dX11_readGood_34
  · replace hf := if_t hf hc_1
    refine lv_aload_n X.hx X.hb dX11_readGood_12 rfl (lv_at hl 1 rfl) ?_
    refine lv_iconst (v := 4) X.hx X.hb dX11_readGood_13 (by decide) ?_
    obtain ⟨⟨r_12, iY_13⟩, hc_14, hf⟩ := bd_i hf
    refine r_wvi (As := [.int 4]) (rest := []) X sm_X11_183 (c_X11_bad l G N uY iY sY tY jY 4 hc_14) hP hD hS hA 0 rfl rfl rfl hl.1 (lv_room (Nat.le_of_ble_eq_true rfl)) ⟨Nat.le_of_ble_eq_true rfl, Nat.le_of_ble_eq_true rfl⟩ ⟨Nat.zero_le _, Nat.zero_le _⟩ dX11_readGood_14 (fun H locs hP hD hS => ?_)
    obtain ⟨hb_15, hf⟩ := zb_i hf
    cases hf
    subst hQ
    exact r_zret X hP hD hS hb_15 dX11_readGood_17

def f_X11_readTrade (N : Nat) (iY : Nat → Int32) (sY : Nat → Nat → Int32) (tY : Nat → Nat → Int64) (jY : Nat → Int64) (p1 : Int32) : Option (Int32 × (Nat → Int32) × (Nat → Nat → Int32) × (Nat → Int64)) :=
  bd (f_X11_next N iY sY tY jY) (fun (iY_1, jY_2) => bd (f_X11_takesName N iY_1 sY tY jY_2 12 ((sY 7) 0)) (fun (r_4, iY_5, jY_6) => (if r_4 = 0 then some (0, iY_5, sY, jY_6) else nv ((5 : Int32) * (iY_5 18)) (fun n_9 => bd (f_X11_looksAt N iY_5 sY tY jY_6 19 ((sY 7) 1)) (fun (r_10, iY_11) => (if r_10 = 0 then some (0, iY_11, sY, jY_6) else ck ((47 : Int32) + (n_9 + (iY_11 18))) 131 (jn (fun (z : Unit) => match z with | () => bd (f_X11_bad N iY_11 sY tY jY_6 3) (fun (r_18, iY_19) => zb r_18 (some (r_18, iY_19, sY, jY_6)))) (fun K_15 => (if (0 : Int32) < ((sY 7) (ix ((47 : Int32) + (n_9 + (iY_11 18))))) then K_15 () else ck ((82 : Int32) + (n_9 + (iY_11 18))) 131 ((if ((sY 7) (ix ((82 : Int32) + (n_9 + (iY_11 18))))) ≤ 0 then bd (f_X11_next N iY_11 sY tY jY_6) (fun (iY_25, jY_26) => (if p1 = 0 then bd (f_X11_puts N iY_25 sY tY jY_26 ((82 : Int32) + (n_9 + (iY_11 18))) 1 9) (fun (r_44, iY_45, sY_46, jY_47) => zb r_44 (some (r_44, iY_45, sY_46, jY_47))) else bd (f_X11_puts N iY_25 sY tY jY_26 ((12 : Int32) + (n_9 + (iY_11 18))) 1 9) (fun (r_29, iY_30, sY_31, jY_32) => (if r_29 = 0 then some (0, iY_30, sY_31, jY_32) else bd (f_X11_puts N iY_30 sY_31 tY jY_32 ((47 : Int32) + (n_9 + (iY_11 18))) 0 20) (fun (r_35, iY_36, sY_37, jY_38) => (if r_35 = 0 then some (0, iY_36, sY_37, jY_38) else ck ((47 : Int32) + (n_9 + (iY_11 18))) 131 (ck ((47 : Int32) + (n_9 + (iY_11 18))) 131 (nv (upd (sY_37 7) (ix ((47 : Int32) + (n_9 + (iY_11 18)))) (((sY_37 7) (ix ((47 : Int32) + (n_9 + (iY_11 18))))) + 1)) (fun g_43 => some (1, iY_36, (va_up sY_37 7 g_43), jY_38)))))))))) else K_15 ())))))))))))
set_option maxHeartbeats 4000000 in
set_option maxRecDepth 100000 in
theorem c_X11_readTrade (l : Launch) (G : GT) (N : Nat) (uY : Nat → Nat) (iY : Nat → Int32) (sY : Nat → Nat → Int32) (tY : Nat → Nat → Int64) (jY : Nat → Int64) (p1 : Int32) {r : Int32} {iY' : Nat → Int32} {sY' : Nat → Nat → Int32} {jY' : Nat → Int64} (hf : f_X11_readTrade N iY sY tY jY p1 = some (r, iY', sY', jY')) : CI l G yX11_readTrade cX11_readTrade 3 .boolean 5 [.ref (uY 0), .int p1] (gY G uY iY sY tY jY) r (gY G uY iY' sY' tY jY') := by
  refine CI.of (by decide) (Nat.le_of_ble_eq_true rfl) ?_
  intro p e s m args below meth c A X hA hP hD hS ls hl
  have hl : lv_has ls 3 [(0, .ref (uY 0)), (1, .int p1)] := hl
  generalize hQ : MQ below (QI G A r (gY G uY iY' sY' tY jY')) args s 0 0 A = QQ
  unfold f_X11_readTrade at hf
  refine lv_aload_n X.hx X.hb dX11_readTrade_0 rfl (lv_at hl 0 rfl) ?_
  obtain ⟨⟨iY_1, jY_2⟩, hc_3, hf⟩ := bd_i hf
  refine r_wvv (As := []) (rest := []) X sm_X11_186 (c_X11_next l G N uY iY sY tY jY hc_3) hP hD hS hA 0 rfl rfl rfl hl.1 (lv_room (Nat.le_of_ble_eq_true rfl)) ⟨Nat.le_of_ble_eq_true rfl, Nat.le_of_ble_eq_true rfl⟩ ⟨Nat.zero_le _, Nat.zero_le _⟩ dX11_readTrade_1 (fun H locs hP hD hS => ?_)
  refine lv_aload_n X.hx X.hb dX11_readTrade_4 rfl (lv_at hl 0 rfl) ?_
  refine lv_bipush (v := 12) X.hx X.hb dX11_readTrade_5 (by decide) ?_
  refine lv_aload_n X.hx X.hb dX11_readTrade_7 rfl (lv_at hl 0 rfl) ?_
  refine gf_X11_37 X hP 0 rfl (v := .ref (uY 8)) rfl dX11_readTrade_8 ?_
  refine lv_iconst (v := 0) X.hx X.hb dX11_readTrade_11 (by decide) ?_
  refine r_iald X hP 3 (f := (sY 7)) rfl (vp_c rfl) dX11_readTrade_12 ?_
  refine W.eq (g2 := F0 m 13 ls [.int ((sY 7) 0), .int 12, .ref (uY 0)]) rfl ?_
  obtain ⟨⟨r_4, iY_5, jY_6⟩, hc_7, hf⟩ := bd_i hf
  refine r_wvi (As := [.int 12, .int ((sY 7) 0)]) (rest := []) X sm_X11_244 (c_X11_takesName l G N uY iY_1 sY tY jY_2 12 ((sY 7) 0) hc_7) hP hD hS hA 0 rfl rfl rfl hl.1 (lv_room (Nat.le_of_ble_eq_true rfl)) ⟨Nat.le_of_ble_eq_true rfl, Nat.le_of_ble_eq_true rfl⟩ ⟨Nat.zero_le _, Nat.zero_le _⟩ dX11_readTrade_13 (fun H locs hP hD hS => ?_)
  refine lv_if_ne (tgt := 21) X.hx X.hb dX11_readTrade_16 (by decide) (fun hc_8 => ?_) (fun hc_8 => ?_)
  · replace hf := if_f hf hc_8
    refine lv_iconst (v := 5) X.hx X.hb dX11_readTrade_21 (by decide) ?_
    refine lv_aload_n X.hx X.hb dX11_readTrade_22 rfl (lv_at hl 0 rfl) ?_
    refine gf_X11_193 X hP 0 rfl (v := .int (iY_5 18)) rfl dX11_readTrade_23 ?_
    refine lv_imul X.hx X.hb dX11_readTrade_26 ?_
    obtain ⟨n_9, en_9, hf⟩ := nv_i hf
    refine r_nm en_9 ?_
    refine lv_istore_n (lv' := [(2, .int n_9), (0, .ref (uY 0)), (1, .int p1)]) X.hx X.hb dX11_readTrade_27 rfl hl (by decide) rfl (fun ls hl => ?_)
    refine lv_aload_n X.hx X.hb dX11_readTrade_28 rfl (lv_at hl 1 rfl) ?_
    refine lv_bipush (v := 19) X.hx X.hb dX11_readTrade_29 (by decide) ?_
    refine lv_aload_n X.hx X.hb dX11_readTrade_31 rfl (lv_at hl 1 rfl) ?_
    refine gf_X11_37 X hP 0 rfl (v := .ref (uY 8)) rfl dX11_readTrade_32 ?_
    refine lv_iconst (v := 1) X.hx X.hb dX11_readTrade_35 (by decide) ?_
    refine r_iald X hP 3 (f := (sY 7)) rfl (vp_c rfl) dX11_readTrade_36 ?_
    refine W.eq (g2 := F0 m 37 ls [.int ((sY 7) 1), .int 19, .ref (uY 0)]) rfl ?_
    obtain ⟨⟨r_10, iY_11⟩, hc_12, hf⟩ := bd_i hf
    refine r_wvi (As := [.int 19, .int ((sY 7) 1)]) (rest := []) X sm_X11_208 (c_X11_looksAt l G N uY iY_5 sY tY jY_6 19 ((sY 7) 1) hc_12) hP hD hS hA 0 rfl rfl rfl hl.1 (lv_room (Nat.le_of_ble_eq_true rfl)) ⟨Nat.le_of_ble_eq_true rfl, Nat.le_of_ble_eq_true rfl⟩ ⟨Nat.zero_le _, Nat.zero_le _⟩ dX11_readTrade_37 (fun H locs hP hD hS => ?_)
    refine lv_if_ne (tgt := 45) X.hx X.hb dX11_readTrade_40 (by decide) (fun hc_13 => ?_) (fun hc_13 => ?_)
    · replace hf := if_f hf hc_13
      refine lv_iload_n X.hx X.hb dX11_readTrade_45 rfl (lv_at hl 0 rfl) ?_
      refine lv_aload_n X.hx X.hb dX11_readTrade_46 rfl (lv_at hl 1 rfl) ?_
      refine gf_X11_193 X hP 0 rfl (v := .int (iY_11 18)) rfl dX11_readTrade_47 ?_
      refine lv_iadd X.hx X.hb dX11_readTrade_50 ?_
      refine lv_istore_n (lv' := [(2, .int (n_9 + (iY_11 18))), (0, .ref (uY 0)), (1, .int p1)]) X.hx X.hb dX11_readTrade_51 rfl hl (by decide) rfl (fun ls hl => ?_)
      refine lv_aload_n X.hx X.hb dX11_readTrade_52 rfl (lv_at hl 1 rfl) ?_
      refine gf_X11_37 X hP 0 rfl (v := .ref (uY 8)) rfl dX11_readTrade_53 ?_
      refine lv_bipush (v := 47) X.hx X.hb dX11_readTrade_56 (by decide) ?_
      refine lv_iload_n X.hx X.hb dX11_readTrade_58 rfl (lv_at hl 0 rfl) ?_
      refine lv_iadd X.hx X.hb dX11_readTrade_59 ?_
      obtain ⟨hi_14, hf⟩ := ck_i hf
      refine r_iald X hP 3 (f := (sY 7)) rfl hi_14 dX11_readTrade_60 ?_
      obtain ⟨K_15, eK_17, hf⟩ := jn_i hf
      have hj_16 : ∀ (H : Heap) (locs : List Loc) (ls : Array Slot), K_15 () = some (r, iY', sY', jY') → va_P G.1 vwCl (gY G uY iY_11 sY tY jY_6) H → va_D A (gY G uY iY_11 sY tY jY_6) → va_S A s.heap H locs → lv_has ls 3 [(0, .ref (uY 0))] → W p l e (RM 5) s m args below meth c H locs 0 0 QQ (F0 m 76 ls []) := by
        intro  H locs ls hf hP hD hS hl
        rw [eK_17] at hf
        try dsimp only at hf
        refine lv_aload_n X.hx X.hb dX11_readTrade_76 rfl (lv_at hl 0 rfl) ?_
        refine lv_iconst (v := 3) X.hx X.hb dX11_readTrade_77 (by decide) ?_
        obtain ⟨⟨r_18, iY_19⟩, hc_20, hf⟩ := bd_i hf
        refine r_wvi (As := [.int 3]) (rest := []) X sm_X11_183 (c_X11_bad l G N uY iY_11 sY tY jY_6 3 hc_20) hP hD hS hA 0 rfl rfl rfl hl.1 (lv_room (Nat.le_of_ble_eq_true rfl)) ⟨Nat.le_of_ble_eq_true rfl, Nat.le_of_ble_eq_true rfl⟩ ⟨Nat.zero_le _, Nat.zero_le _⟩ dX11_readTrade_78 (fun H locs hP hD hS => ?_)
        obtain ⟨hb_21, hf⟩ := zb_i hf
        cases hf
        subst hQ
        exact r_zret X hP hD hS hb_21 dX11_readTrade_81
      refine lv_if_gt (tgt := 76) X.hx X.hb dX11_readTrade_61 (by decide) (fun hc_22 => ?_) (fun hc_22 => ?_)
      · replace hf := if_t hf hc_22
        exact hj_16 _ _ _ hf hP hD hS (lv_sub hl [1] rfl)
      · replace hf := if_f hf hc_22
        refine lv_aload_n X.hx X.hb dX11_readTrade_64 rfl (lv_at hl 1 rfl) ?_
        refine gf_X11_37 X hP 0 rfl (v := .ref (uY 8)) rfl dX11_readTrade_65 ?_
        refine lv_bipush (v := 82) X.hx X.hb dX11_readTrade_68 (by decide) ?_
        refine lv_iload_n X.hx X.hb dX11_readTrade_70 rfl (lv_at hl 0 rfl) ?_
        refine lv_iadd X.hx X.hb dX11_readTrade_71 ?_
        obtain ⟨hi_23, hf⟩ := ck_i hf
        refine r_iald X hP 3 (f := (sY 7)) rfl hi_23 dX11_readTrade_72 ?_
        refine lv_if_le (tgt := 82) X.hx X.hb dX11_readTrade_73 (by decide) (fun hc_24 => ?_) (fun hc_24 => ?_)
        · replace hf := if_t hf hc_24
          refine lv_aload_n X.hx X.hb dX11_readTrade_82 rfl (lv_at hl 1 rfl) ?_
          obtain ⟨⟨iY_25, jY_26⟩, hc_27, hf⟩ := bd_i hf
          refine r_wvv (As := []) (rest := []) X sm_X11_186 (c_X11_next l G N uY iY_11 sY tY jY_6 hc_27) hP hD hS hA 0 rfl rfl rfl hl.1 (lv_room (Nat.le_of_ble_eq_true rfl)) ⟨Nat.le_of_ble_eq_true rfl, Nat.le_of_ble_eq_true rfl⟩ ⟨Nat.zero_le _, Nat.zero_le _⟩ dX11_readTrade_83 (fun H locs hP hD hS => ?_)
          refine lv_iload_n X.hx X.hb dX11_readTrade_86 rfl (lv_at hl 2 rfl) ?_
          refine lv_if_ne (tgt := 102) X.hx X.hb dX11_readTrade_87 (by decide) (fun hc_28 => ?_) (fun hc_28 => ?_)
          · replace hf := if_f hf hc_28
            refine lv_aload_n X.hx X.hb dX11_readTrade_102 rfl (lv_at hl 1 rfl) ?_
            refine lv_bipush (v := 12) X.hx X.hb dX11_readTrade_103 (by decide) ?_
            refine lv_iload_n X.hx X.hb dX11_readTrade_105 rfl (lv_at hl 0 rfl) ?_
            refine lv_iadd X.hx X.hb dX11_readTrade_106 ?_
            refine lv_iconst (v := 1) X.hx X.hb dX11_readTrade_107 (by decide) ?_
            refine lv_bipush (v := 9) X.hx X.hb dX11_readTrade_108 (by decide) ?_
            obtain ⟨⟨r_29, iY_30, sY_31, jY_32⟩, hc_33, hf⟩ := bd_i hf
            refine r_wvi (As := [.int ((12 : Int32) + (n_9 + (iY_11 18))), .int 1, .int 9]) (rest := []) X sm_X11_217 (c_X11_puts l G N uY iY_25 sY tY jY_26 ((12 : Int32) + (n_9 + (iY_11 18))) 1 9 hc_33) hP hD hS hA 0 rfl rfl rfl hl.1 (lv_room (Nat.le_of_ble_eq_true rfl)) ⟨Nat.le_of_ble_eq_true rfl, Nat.le_of_ble_eq_true rfl⟩ ⟨Nat.zero_le _, Nat.zero_le _⟩ dX11_readTrade_110 (fun H locs hP hD hS => ?_)
            refine lv_if_eq (tgt := 130) X.hx X.hb dX11_readTrade_113 (by decide) (fun hc_34 => ?_) (fun hc_34 => ?_)
            · replace hf := if_t hf hc_34
              refine lv_iconst (v := 0) X.hx X.hb dX11_readTrade_130 (by decide) ?_
              cases hf
              subst hQ
              exact r_zret X hP hD hS (by decide) dX11_readTrade_131
            · replace hf := if_f hf hc_34
              refine lv_aload_n X.hx X.hb dX11_readTrade_116 rfl (lv_at hl 1 rfl) ?_
              refine lv_bipush (v := 47) X.hx X.hb dX11_readTrade_117 (by decide) ?_
              refine lv_iload_n X.hx X.hb dX11_readTrade_119 rfl (lv_at hl 0 rfl) ?_
              refine lv_iadd X.hx X.hb dX11_readTrade_120 ?_
              refine lv_iconst (v := 0) X.hx X.hb dX11_readTrade_121 (by decide) ?_
              refine lv_bipush (v := 20) X.hx X.hb dX11_readTrade_122 (by decide) ?_
              obtain ⟨⟨r_35, iY_36, sY_37, jY_38⟩, hc_39, hf⟩ := bd_i hf
              refine r_wvi (As := [.int ((47 : Int32) + (n_9 + (iY_11 18))), .int 0, .int 20]) (rest := []) X sm_X11_217 (c_X11_puts l G N uY iY_30 sY_31 tY jY_32 ((47 : Int32) + (n_9 + (iY_11 18))) 0 20 hc_39) hP hD hS hA 0 rfl rfl rfl hl.1 (lv_room (Nat.le_of_ble_eq_true rfl)) ⟨Nat.le_of_ble_eq_true rfl, Nat.le_of_ble_eq_true rfl⟩ ⟨Nat.zero_le _, Nat.zero_le _⟩ dX11_readTrade_124 (fun H locs hP hD hS => ?_)
              refine lv_if_ne (tgt := 132) X.hx X.hb dX11_readTrade_127 (by decide) (fun hc_40 => ?_) (fun hc_40 => ?_)
              · replace hf := if_f hf hc_40
                refine lv_aload_n X.hx X.hb dX11_readTrade_132 rfl (lv_at hl 1 rfl) ?_
                refine gf_X11_37 X hP 0 rfl (v := .ref (uY 8)) rfl dX11_readTrade_133 ?_
                refine lv_bipush (v := 47) X.hx X.hb dX11_readTrade_136 (by decide) ?_
                refine lv_iload_n X.hx X.hb dX11_readTrade_138 rfl (lv_at hl 0 rfl) ?_
                refine lv_iadd X.hx X.hb dX11_readTrade_139 ?_
                refine lv_dup2_11 X.hx X.hb dX11_readTrade_140 rfl rfl ?_
                obtain ⟨hi_41, hf⟩ := ck_i hf
                refine r_iald X hP 3 (f := (sY_37 7)) rfl hi_41 dX11_readTrade_141 ?_
                refine lv_iconst (v := 1) X.hx X.hb dX11_readTrade_142 (by decide) ?_
                refine lv_iadd X.hx X.hb dX11_readTrade_143 ?_
                obtain ⟨hi_42, hf⟩ := ck_i hf
                obtain ⟨g_43, eg_43, hf⟩ := nv_i hf
                refine r_iast X hP hD hS 3 (f := (sY_37 7)) rfl hi_42 (wo := (gY G uY iY_36 (va_up sY_37 7 g_43) tY jY_38)) (by subst eg_43; rfl) dX11_readTrade_144 (fun H locs hP hD hS => ?_)
                refine lv_iconst (v := 1) X.hx X.hb dX11_readTrade_145 (by decide) ?_
                cases hf
                subst hQ
                exact r_zret X hP hD hS (by decide) dX11_readTrade_146
              · replace hf := if_t hf hc_40
                refine lv_iconst (v := 0) X.hx X.hb dX11_readTrade_130 (by decide) ?_
                cases hf
                subst hQ
                exact r_zret X hP hD hS (by decide) dX11_readTrade_131
          · replace hf := if_t hf hc_28
            refine lv_aload_n X.hx X.hb dX11_readTrade_90 rfl (lv_at hl 1 rfl) ?_
            refine lv_bipush (v := 82) X.hx X.hb dX11_readTrade_91 (by decide) ?_
            refine lv_iload_n X.hx X.hb dX11_readTrade_93 rfl (lv_at hl 0 rfl) ?_
            refine lv_iadd X.hx X.hb dX11_readTrade_94 ?_
            refine lv_iconst (v := 1) X.hx X.hb dX11_readTrade_95 (by decide) ?_
            refine lv_bipush (v := 9) X.hx X.hb dX11_readTrade_96 (by decide) ?_
            obtain ⟨⟨r_44, iY_45, sY_46, jY_47⟩, hc_48, hf⟩ := bd_i hf
            refine r_wvi (As := [.int ((82 : Int32) + (n_9 + (iY_11 18))), .int 1, .int 9]) (rest := []) X sm_X11_217 (c_X11_puts l G N uY iY_25 sY tY jY_26 ((82 : Int32) + (n_9 + (iY_11 18))) 1 9 hc_48) hP hD hS hA 0 rfl rfl rfl hl.1 (lv_room (Nat.le_of_ble_eq_true rfl)) ⟨Nat.le_of_ble_eq_true rfl, Nat.le_of_ble_eq_true rfl⟩ ⟨Nat.zero_le _, Nat.zero_le _⟩ dX11_readTrade_98 (fun H locs hP hD hS => ?_)
            obtain ⟨hb_49, hf⟩ := zb_i hf
            cases hf
            subst hQ
            exact r_zret X hP hD hS hb_49 dX11_readTrade_101
        · replace hf := if_f hf hc_24
          exact hj_16 _ _ _ hf hP hD hS (lv_sub hl [1] rfl)
    · replace hf := if_t hf hc_13
      refine lv_iconst (v := 0) X.hx X.hb dX11_readTrade_43 (by decide) ?_
      cases hf
      subst hQ
      exact r_zret X hP hD hS (by decide) dX11_readTrade_44
  · replace hf := if_t hf hc_8
    refine lv_iconst (v := 0) X.hx X.hb dX11_readTrade_19 (by decide) ?_
    cases hf
    subst hQ
    exact r_zret X hP hD hS (by decide) dX11_readTrade_20

def f_X11_readPair (N : Nat) (iY : Nat → Int32) (sY : Nat → Nat → Int32) (tY : Nat → Nat → Int64) (jY : Nat → Int64) (p1 : Int32) : Option (Int32 × (Nat → Int32) × (Nat → Nat → Int32) × (Nat → Int64)) :=
  bd (f_X11_next N iY sY tY jY) (fun (iY_1, jY_2) => bd (f_X11_takesName N iY_1 sY tY jY_2 12 ((sY 7) 0)) (fun (r_4, iY_5, jY_6) => (if r_4 = 0 then some (0, iY_5, sY, jY_6) else bd (f_X11_looksAt N iY_5 sY tY jY_6 12 ((sY 7) 0)) (fun (r_9, iY_10) => (if r_9 = 0 then some (0, iY_10, sY, jY_6) else jn (fun (z : Unit) => match z with | () => bd (f_X11_bad N iY_10 sY tY jY_6 3) (fun (r_16, iY_17) => zb r_16 (some (r_16, iY_17, sY, jY_6)))) (fun K_13 => (if (iY_10 18) = (iY_5 18) then K_13 () else ck (p1 + (iY_5 18)) 131 (bd (f_X11_bitOf N ((sY 7) (ix (p1 + (iY_5 18)))) (iY_10 18)) (fun r_22 => (if r_22 = 0 then ck (p1 + (iY_5 18)) 131 (ck (p1 + (iY_5 18)) 131 (nv (upd (sY 7) (ix (p1 + (iY_5 18))) (((sY 7) (ix (p1 + (iY_5 18)))) ||| ((1 : Int32) <<< ((iY_10 18) &&& 31)))) (fun g_27 => ck (p1 + (iY_10 18)) 131 (ck (p1 + (iY_10 18)) 131 (nv (upd g_27 (ix (p1 + (iY_10 18))) ((g_27 (ix (p1 + (iY_10 18)))) ||| ((1 : Int32) <<< ((iY_5 18) &&& 31)))) (fun g_30 => bd (f_X11_next N iY_10 (va_up sY 7 g_30) tY jY_6) (fun (iY_31, jY_32) => some (1, iY_31, (va_up sY 7 g_30), jY_32)))))))) else K_13 ()))))))))))
set_option maxHeartbeats 4000000 in
set_option maxRecDepth 100000 in
theorem c_X11_readPair (l : Launch) (G : GT) (N : Nat) (uY : Nat → Nat) (iY : Nat → Int32) (sY : Nat → Nat → Int32) (tY : Nat → Nat → Int64) (jY : Nat → Int64) (p1 : Int32) {r : Int32} {iY' : Nat → Int32} {sY' : Nat → Nat → Int32} {jY' : Nat → Int64} (hf : f_X11_readPair N iY sY tY jY p1 = some (r, iY', sY', jY')) : CI l G yX11_readPair cX11_readPair 3 .boolean 4 [.ref (uY 0), .int p1] (gY G uY iY sY tY jY) r (gY G uY iY' sY' tY jY') := by
  refine CI.of (by decide) (Nat.le_of_ble_eq_true rfl) ?_
  intro p e s m args below meth c A X hA hP hD hS ls hl
  have hl : lv_has ls 3 [(0, .ref (uY 0)), (1, .int p1)] := hl
  generalize hQ : MQ below (QI G A r (gY G uY iY' sY' tY jY')) args s 0 0 A = QQ
  unfold f_X11_readPair at hf
  refine lv_aload_n X.hx X.hb dX11_readPair_0 rfl (lv_at hl 0 rfl) ?_
  obtain ⟨⟨iY_1, jY_2⟩, hc_3, hf⟩ := bd_i hf
  refine r_wvv (As := []) (rest := []) X sm_X11_186 (c_X11_next l G N uY iY sY tY jY hc_3) hP hD hS hA 0 rfl rfl rfl hl.1 (lv_room (Nat.le_of_ble_eq_true rfl)) ⟨Nat.le_of_ble_eq_true rfl, Nat.le_of_ble_eq_true rfl⟩ ⟨Nat.zero_le _, Nat.zero_le _⟩ dX11_readPair_1 (fun H locs hP hD hS => ?_)
  refine lv_aload_n X.hx X.hb dX11_readPair_4 rfl (lv_at hl 0 rfl) ?_
  refine lv_bipush (v := 12) X.hx X.hb dX11_readPair_5 (by decide) ?_
  refine lv_aload_n X.hx X.hb dX11_readPair_7 rfl (lv_at hl 0 rfl) ?_
  refine gf_X11_37 X hP 0 rfl (v := .ref (uY 8)) rfl dX11_readPair_8 ?_
  refine lv_iconst (v := 0) X.hx X.hb dX11_readPair_11 (by decide) ?_
  refine r_iald X hP 3 (f := (sY 7)) rfl (vp_c rfl) dX11_readPair_12 ?_
  refine W.eq (g2 := F0 m 13 ls [.int ((sY 7) 0), .int 12, .ref (uY 0)]) rfl ?_
  obtain ⟨⟨r_4, iY_5, jY_6⟩, hc_7, hf⟩ := bd_i hf
  refine r_wvi (As := [.int 12, .int ((sY 7) 0)]) (rest := []) X sm_X11_244 (c_X11_takesName l G N uY iY_1 sY tY jY_2 12 ((sY 7) 0) hc_7) hP hD hS hA 0 rfl rfl rfl hl.1 (lv_room (Nat.le_of_ble_eq_true rfl)) ⟨Nat.le_of_ble_eq_true rfl, Nat.le_of_ble_eq_true rfl⟩ ⟨Nat.zero_le _, Nat.zero_le _⟩ dX11_readPair_13 (fun H locs hP hD hS => ?_)
  refine lv_if_ne (tgt := 21) X.hx X.hb dX11_readPair_16 (by decide) (fun hc_8 => ?_) (fun hc_8 => ?_)
  · replace hf := if_f hf hc_8
    refine lv_aload_n X.hx X.hb dX11_readPair_21 rfl (lv_at hl 0 rfl) ?_
    refine gf_X11_193 X hP 0 rfl (v := .int (iY_5 18)) rfl dX11_readPair_22 ?_
    refine lv_istore_n (lv' := [(2, .int (iY_5 18)), (0, .ref (uY 0)), (1, .int p1)]) X.hx X.hb dX11_readPair_25 rfl hl (by decide) rfl (fun ls hl => ?_)
    refine lv_aload_n X.hx X.hb dX11_readPair_26 rfl (lv_at hl 1 rfl) ?_
    refine lv_bipush (v := 12) X.hx X.hb dX11_readPair_27 (by decide) ?_
    refine lv_aload_n X.hx X.hb dX11_readPair_29 rfl (lv_at hl 1 rfl) ?_
    refine gf_X11_37 X hP 0 rfl (v := .ref (uY 8)) rfl dX11_readPair_30 ?_
    refine lv_iconst (v := 0) X.hx X.hb dX11_readPair_33 (by decide) ?_
    refine r_iald X hP 3 (f := (sY 7)) rfl (vp_c rfl) dX11_readPair_34 ?_
    refine W.eq (g2 := F0 m 35 ls [.int ((sY 7) 0), .int 12, .ref (uY 0)]) rfl ?_
    obtain ⟨⟨r_9, iY_10⟩, hc_11, hf⟩ := bd_i hf
    refine r_wvi (As := [.int 12, .int ((sY 7) 0)]) (rest := []) X sm_X11_208 (c_X11_looksAt l G N uY iY_5 sY tY jY_6 12 ((sY 7) 0) hc_11) hP hD hS hA 0 rfl rfl rfl hl.1 (lv_room (Nat.le_of_ble_eq_true rfl)) ⟨Nat.le_of_ble_eq_true rfl, Nat.le_of_ble_eq_true rfl⟩ ⟨Nat.zero_le _, Nat.zero_le _⟩ dX11_readPair_35 (fun H locs hP hD hS => ?_)
    refine lv_if_ne (tgt := 43) X.hx X.hb dX11_readPair_38 (by decide) (fun hc_12 => ?_) (fun hc_12 => ?_)
    · replace hf := if_f hf hc_12
      refine lv_aload_n X.hx X.hb dX11_readPair_43 rfl (lv_at hl 1 rfl) ?_
      refine gf_X11_193 X hP 0 rfl (v := .int (iY_10 18)) rfl dX11_readPair_44 ?_
      refine lv_iload_n X.hx X.hb dX11_readPair_47 rfl (lv_at hl 0 rfl) ?_
      obtain ⟨K_13, eK_15, hf⟩ := jn_i hf
      have hj_14 : ∀ (H : Heap) (locs : List Loc) (ls : Array Slot), K_13 () = some (r, iY', sY', jY') → va_P G.1 vwCl (gY G uY iY_10 sY tY jY_6) H → va_D A (gY G uY iY_10 sY tY jY_6) → va_S A s.heap H locs → lv_has ls 3 [(0, .ref (uY 0))] → W p l e (RM 4) s m args below meth c H locs 0 0 QQ (F0 m 69 ls []) := by
        intro  H locs ls hf hP hD hS hl
        rw [eK_15] at hf
        try dsimp only at hf
        refine lv_aload_n X.hx X.hb dX11_readPair_69 rfl (lv_at hl 0 rfl) ?_
        refine lv_iconst (v := 3) X.hx X.hb dX11_readPair_70 (by decide) ?_
        obtain ⟨⟨r_16, iY_17⟩, hc_18, hf⟩ := bd_i hf
        refine r_wvi (As := [.int 3]) (rest := []) X sm_X11_183 (c_X11_bad l G N uY iY_10 sY tY jY_6 3 hc_18) hP hD hS hA 0 rfl rfl rfl hl.1 (lv_room (Nat.le_of_ble_eq_true rfl)) ⟨Nat.le_of_ble_eq_true rfl, Nat.le_of_ble_eq_true rfl⟩ ⟨Nat.zero_le _, Nat.zero_le _⟩ dX11_readPair_71 (fun H locs hP hD hS => ?_)
        obtain ⟨hb_19, hf⟩ := zb_i hf
        cases hf
        subst hQ
        exact r_zret X hP hD hS hb_19 dX11_readPair_74
      refine lv_icmp_eq (tgt := 69) X.hx X.hb dX11_readPair_48 (by decide) (fun hc_20 => ?_) (fun hc_20 => ?_)
      · replace hf := if_t hf hc_20
        exact hj_14 _ _ _ hf hP hD hS (lv_sub hl [1] rfl)
      · replace hf := if_f hf hc_20
        refine lv_aload_n X.hx X.hb dX11_readPair_51 rfl (lv_at hl 1 rfl) ?_
        refine gf_X11_37 X hP 0 rfl (v := .ref (uY 8)) rfl dX11_readPair_52 ?_
        refine lv_iload_n X.hx X.hb dX11_readPair_55 rfl (lv_at hl 2 rfl) ?_
        refine lv_iload_n X.hx X.hb dX11_readPair_56 rfl (lv_at hl 0 rfl) ?_
        refine lv_iadd X.hx X.hb dX11_readPair_57 ?_
        obtain ⟨hi_21, hf⟩ := ck_i hf
        refine r_iald X hP 3 (f := (sY 7)) rfl hi_21 dX11_readPair_58 ?_
        refine lv_aload_n X.hx X.hb dX11_readPair_59 rfl (lv_at hl 1 rfl) ?_
        refine gf_X11_193 X hP 0 rfl (v := .int (iY_10 18)) rfl dX11_readPair_60 ?_
        obtain ⟨r_22, hc_23, hf⟩ := bd_i hf
        refine r_cs0 (As := [.int ((sY 7) (ix (p1 + (iY_5 18)))), .int (iY_10 18)]) (rest := []) X sm_X11_214 (c_X11_bitOf l G N ((sY 7) (ix (p1 + (iY_5 18)))) (iY_10 18) hc_23) hP hD hS hA rfl hl.1 (lv_room (Nat.le_of_ble_eq_true rfl)) ⟨Nat.le_of_ble_eq_true rfl, Nat.le_of_ble_eq_true rfl⟩ ⟨Nat.zero_le _, Nat.zero_le _⟩ dX11_readPair_63 (fun H locs hP hD hS => ?_)
        refine lv_if_eq (tgt := 75) X.hx X.hb dX11_readPair_66 (by decide) (fun hc_24 => ?_) (fun hc_24 => ?_)
        · replace hf := if_t hf hc_24
          refine lv_aload_n X.hx X.hb dX11_readPair_75 rfl (lv_at hl 1 rfl) ?_
          refine gf_X11_37 X hP 0 rfl (v := .ref (uY 8)) rfl dX11_readPair_76 ?_
          refine lv_iload_n X.hx X.hb dX11_readPair_79 rfl (lv_at hl 2 rfl) ?_
          refine lv_iload_n X.hx X.hb dX11_readPair_80 rfl (lv_at hl 0 rfl) ?_
          refine lv_iadd X.hx X.hb dX11_readPair_81 ?_
          refine lv_dup2_11 X.hx X.hb dX11_readPair_82 rfl rfl ?_
          obtain ⟨hi_25, hf⟩ := ck_i hf
          refine r_iald X hP 3 (f := (sY 7)) rfl hi_25 dX11_readPair_83 ?_
          refine lv_iconst (v := 1) X.hx X.hb dX11_readPair_84 (by decide) ?_
          refine lv_aload_n X.hx X.hb dX11_readPair_85 rfl (lv_at hl 1 rfl) ?_
          refine gf_X11_193 X hP 0 rfl (v := .int (iY_10 18)) rfl dX11_readPair_86 ?_
          refine lv_ishl X.hx X.hb dX11_readPair_89 ?_
          refine lv_ior X.hx X.hb dX11_readPair_90 ?_
          obtain ⟨hi_26, hf⟩ := ck_i hf
          obtain ⟨g_27, eg_27, hf⟩ := nv_i hf
          refine r_iast X hP hD hS 3 (f := (sY 7)) rfl hi_26 (wo := (gY G uY iY_10 (va_up sY 7 g_27) tY jY_6)) (by subst eg_27; rfl) dX11_readPair_91 (fun H locs hP hD hS => ?_)
          refine lv_aload_n X.hx X.hb dX11_readPair_92 rfl (lv_at hl 1 rfl) ?_
          refine gf_X11_37 X hP 0 rfl (v := .ref (uY 8)) rfl dX11_readPair_93 ?_
          refine lv_iload_n X.hx X.hb dX11_readPair_96 rfl (lv_at hl 2 rfl) ?_
          refine lv_aload_n X.hx X.hb dX11_readPair_97 rfl (lv_at hl 1 rfl) ?_
          refine gf_X11_193 X hP 0 rfl (v := .int (iY_10 18)) rfl dX11_readPair_98 ?_
          refine lv_iadd X.hx X.hb dX11_readPair_101 ?_
          refine lv_dup2_11 X.hx X.hb dX11_readPair_102 rfl rfl ?_
          obtain ⟨hi_28, hf⟩ := ck_i hf
          refine r_iald X hP 3 (f := g_27) rfl hi_28 dX11_readPair_103 ?_
          refine lv_iconst (v := 1) X.hx X.hb dX11_readPair_104 (by decide) ?_
          refine lv_iload_n X.hx X.hb dX11_readPair_105 rfl (lv_at hl 0 rfl) ?_
          refine lv_ishl X.hx X.hb dX11_readPair_106 ?_
          refine lv_ior X.hx X.hb dX11_readPair_107 ?_
          obtain ⟨hi_29, hf⟩ := ck_i hf
          obtain ⟨g_30, eg_30, hf⟩ := nv_i hf
          refine r_iast X hP hD hS 3 (f := g_27) rfl hi_29 (wo := (gY G uY iY_10 (va_up sY 7 g_30) tY jY_6)) (by subst eg_30; rfl) dX11_readPair_108 (fun H locs hP hD hS => ?_)
          refine lv_aload_n X.hx X.hb dX11_readPair_109 rfl (lv_at hl 1 rfl) ?_
          obtain ⟨⟨iY_31, jY_32⟩, hc_33, hf⟩ := bd_i hf
          refine r_wvv (As := []) (rest := []) X sm_X11_186 (c_X11_next l G N uY iY_10 (va_up sY 7 g_30) tY jY_6 hc_33) hP hD hS hA 0 rfl rfl rfl hl.1 (lv_room (Nat.le_of_ble_eq_true rfl)) ⟨Nat.le_of_ble_eq_true rfl, Nat.le_of_ble_eq_true rfl⟩ ⟨Nat.zero_le _, Nat.zero_le _⟩ dX11_readPair_110 (fun H locs hP hD hS => ?_)
          refine lv_iconst (v := 1) X.hx X.hb dX11_readPair_113 (by decide) ?_
          cases hf
          subst hQ
          exact r_zret X hP hD hS (by decide) dX11_readPair_114
        · replace hf := if_f hf hc_24
          exact hj_14 _ _ _ hf hP hD hS (lv_sub hl [1] rfl)
    · replace hf := if_t hf hc_12
      refine lv_iconst (v := 0) X.hx X.hb dX11_readPair_41 (by decide) ?_
      cases hf
      subst hQ
      exact r_zret X hP hD hS (by decide) dX11_readPair_42
  · replace hf := if_t hf hc_8
    refine lv_iconst (v := 0) X.hx X.hb dX11_readPair_19 (by decide) ?_
    cases hf
    subst hQ
    exact r_zret X hP hD hS (by decide) dX11_readPair_20

def f_X11_line (N : Nat) (iY : Nat → Int32) (sY : Nat → Nat → Int32) (tY : Nat → Nat → Int64) (jY : Nat → Int64) : Option (Int32 × (Nat → Int32) × (Nat → Nat → Int32) × (Nat → Nat → Int64) × (Nat → Int64)) :=
  bd (f_X11_isWord N iY sY tY jY 123581014175598) (fun r_1 => (if r_1 = 0 then bd (f_X11_isWord N iY sY tY jY 1735356260) (fun r_4 => (if r_4 = 0 then bd (f_X11_isWord N iY sY tY jY 495622843507) (fun r_7 => (if r_7 = 0 then bd (f_X11_isWord N iY sY tY jY 512735736947) (fun r_10 => (if r_10 = 0 then bd (f_X11_isWord N iY sY tY jY 461414299507) (fun r_13 => (if r_13 = 0 then bd (f_X11_isWord N iY sY tY jY 1718576499) (fun r_16 => (if r_16 = 0 then bd (f_X11_isWord N iY sY tY jY 431197613171) (fun r_19 => (if r_19 = 0 then bd (f_X11_isWord N iY sY tY jY 508507548787) (fun r_22 => (if r_22 = 0 then bd (f_X11_isWord N iY sY tY jY 1650814060) (fun r_25 => (if r_25 = 0 then bd (f_X11_bad N iY sY tY jY 1) (fun (r_28, iY_29) => zb r_28 (some (r_28, iY_29, sY, tY, jY))) else bd (f_X11_once N iY sY tY jY 2 4 2 30) (fun (r_32, iY_33, sY_34, jY_35) => zb r_32 (some (r_32, iY_33, sY_34, tY, jY_35))))) else bd (f_X11_once N iY sY tY jY 1 3 0 9) (fun (r_38, iY_39, sY_40, jY_41) => zb r_38 (some (r_38, iY_39, sY_40, tY, jY_41))))) else bd (f_X11_once N iY sY tY jY 0 2 1 9) (fun (r_44, iY_45, sY_46, jY_47) => zb r_44 (some (r_44, iY_45, sY_46, tY, jY_47))))) else bd (f_X11_readPair N iY sY tY jY 124) (fun (r_50, iY_51, sY_52, jY_53) => zb r_50 (some (r_50, iY_51, sY_52, tY, jY_53))))) else bd (f_X11_readPair N iY sY tY jY 117) (fun (r_56, iY_57, sY_58, jY_59) => zb r_56 (some (r_56, iY_57, sY_58, tY, jY_59))))) else bd (f_X11_readTrade N iY sY tY jY 0) (fun (r_62, iY_63, sY_64, jY_65) => zb r_62 (some (r_62, iY_63, sY_64, tY, jY_65))))) else bd (f_X11_readTrade N iY sY tY jY 1) (fun (r_68, iY_69, sY_70, jY_71) => zb r_68 (some (r_68, iY_69, sY_70, tY, jY_71))))) else bd (f_X11_readGood N iY sY tY jY) (fun (r_74, iY_75, sY_76, tY_77, jY_78) => zb r_74 (some (r_74, iY_75, sY_76, tY_77, jY_78))))) else bd (f_X11_readPerson N iY sY tY jY) (fun (r_81, iY_82, sY_83, tY_84, jY_85) => zb r_81 (some (r_81, iY_82, sY_83, tY_84, jY_85)))))
set_option maxHeartbeats 4000000 in
set_option maxRecDepth 100000 in
theorem c_X11_line (l : Launch) (G : GT) (N : Nat) (uY : Nat → Nat) (iY : Nat → Int32) (sY : Nat → Nat → Int32) (tY : Nat → Nat → Int64) (jY : Nat → Int64) {r : Int32} {iY' : Nat → Int32} {sY' : Nat → Nat → Int32} {tY' : Nat → Nat → Int64} {jY' : Nat → Int64} (hf : f_X11_line N iY sY tY jY = some (r, iY', sY', tY', jY')) : CI l G yX11_line cX11_line 1 .boolean 6 [.ref (uY 0)] (gY G uY iY sY tY jY) r (gY G uY iY' sY' tY' jY') := by
  refine CI.of (by decide) (Nat.le_of_ble_eq_true rfl) ?_
  intro p e s m args below meth c A X hA hP hD hS ls hl
  have hl : lv_has ls 1 [(0, .ref (uY 0))] := hl
  generalize hQ : MQ below (QI G A r (gY G uY iY' sY' tY' jY')) args s 0 0 A = QQ
  unfold f_X11_line at hf
  refine lv_aload_n X.hx X.hb dX11_line_0 rfl (lv_at hl 0 rfl) ?_
  refine lv_ldc2 (v := 123581014175598) X.hx X.hb X.hown (X.hts _ tw_1294) dX11_line_1 ?_
  obtain ⟨r_1, hc_2, hf⟩ := bd_i hf
  refine r_wvi (As := [.long 123581014175598]) (rest := []) X sm_X11_220 (c_X11_isWord l G N uY iY sY tY jY 123581014175598 hc_2) hP hD hS hA 0 rfl rfl rfl hl.1 (lv_room (Nat.le_of_ble_eq_true rfl)) ⟨Nat.le_of_ble_eq_true rfl, Nat.le_of_ble_eq_true rfl⟩ ⟨Nat.zero_le _, Nat.zero_le _⟩ dX11_line_4 (fun H locs hP hD hS => ?_)
  refine lv_if_eq (tgt := 15) X.hx X.hb dX11_line_7 (by decide) (fun hc_3 => ?_) (fun hc_3 => ?_)
  · replace hf := if_t hf hc_3
    refine lv_aload_n X.hx X.hb dX11_line_15 rfl (lv_at hl 0 rfl) ?_
    refine lv_ldc2 (v := 1735356260) X.hx X.hb X.hown (X.hts _ tw_1295) dX11_line_16 ?_
    obtain ⟨r_4, hc_5, hf⟩ := bd_i hf
    refine r_wvi (As := [.long 1735356260]) (rest := []) X sm_X11_220 (c_X11_isWord l G N uY iY sY tY jY 1735356260 hc_5) hP hD hS hA 0 rfl rfl rfl hl.1 (lv_room (Nat.le_of_ble_eq_true rfl)) ⟨Nat.le_of_ble_eq_true rfl, Nat.le_of_ble_eq_true rfl⟩ ⟨Nat.zero_le _, Nat.zero_le _⟩ dX11_line_19 (fun H locs hP hD hS => ?_)
    refine lv_if_eq (tgt := 30) X.hx X.hb dX11_line_22 (by decide) (fun hc_6 => ?_) (fun hc_6 => ?_)
    · replace hf := if_t hf hc_6
      refine lv_aload_n X.hx X.hb dX11_line_30 rfl (lv_at hl 0 rfl) ?_
      refine lv_ldc2 (v := 495622843507) X.hx X.hb X.hown (X.hts _ tw_1296) dX11_line_31 ?_
      obtain ⟨r_7, hc_8, hf⟩ := bd_i hf
      refine r_wvi (As := [.long 495622843507]) (rest := []) X sm_X11_220 (c_X11_isWord l G N uY iY sY tY jY 495622843507 hc_8) hP hD hS hA 0 rfl rfl rfl hl.1 (lv_room (Nat.le_of_ble_eq_true rfl)) ⟨Nat.le_of_ble_eq_true rfl, Nat.le_of_ble_eq_true rfl⟩ ⟨Nat.zero_le _, Nat.zero_le _⟩ dX11_line_34 (fun H locs hP hD hS => ?_)
      refine lv_if_eq (tgt := 46) X.hx X.hb dX11_line_37 (by decide) (fun hc_9 => ?_) (fun hc_9 => ?_)
      · replace hf := if_t hf hc_9
        refine lv_aload_n X.hx X.hb dX11_line_46 rfl (lv_at hl 0 rfl) ?_
        refine lv_ldc2 (v := 512735736947) X.hx X.hb X.hown (X.hts _ tw_1297) dX11_line_47 ?_
        obtain ⟨r_10, hc_11, hf⟩ := bd_i hf
        refine r_wvi (As := [.long 512735736947]) (rest := []) X sm_X11_220 (c_X11_isWord l G N uY iY sY tY jY 512735736947 hc_11) hP hD hS hA 0 rfl rfl rfl hl.1 (lv_room (Nat.le_of_ble_eq_true rfl)) ⟨Nat.le_of_ble_eq_true rfl, Nat.le_of_ble_eq_true rfl⟩ ⟨Nat.zero_le _, Nat.zero_le _⟩ dX11_line_50 (fun H locs hP hD hS => ?_)
        refine lv_if_eq (tgt := 62) X.hx X.hb dX11_line_53 (by decide) (fun hc_12 => ?_) (fun hc_12 => ?_)
        · replace hf := if_t hf hc_12
          refine lv_aload_n X.hx X.hb dX11_line_62 rfl (lv_at hl 0 rfl) ?_
          refine lv_ldc2 (v := 461414299507) X.hx X.hb X.hown (X.hts _ tw_1298) dX11_line_63 ?_
          obtain ⟨r_13, hc_14, hf⟩ := bd_i hf
          refine r_wvi (As := [.long 461414299507]) (rest := []) X sm_X11_220 (c_X11_isWord l G N uY iY sY tY jY 461414299507 hc_14) hP hD hS hA 0 rfl rfl rfl hl.1 (lv_room (Nat.le_of_ble_eq_true rfl)) ⟨Nat.le_of_ble_eq_true rfl, Nat.le_of_ble_eq_true rfl⟩ ⟨Nat.zero_le _, Nat.zero_le _⟩ dX11_line_66 (fun H locs hP hD hS => ?_)
          refine lv_if_eq (tgt := 79) X.hx X.hb dX11_line_69 (by decide) (fun hc_15 => ?_) (fun hc_15 => ?_)
          · replace hf := if_t hf hc_15
            refine lv_aload_n X.hx X.hb dX11_line_79 rfl (lv_at hl 0 rfl) ?_
            refine lv_ldc2 (v := 1718576499) X.hx X.hb X.hown (X.hts _ tw_1299) dX11_line_80 ?_
            obtain ⟨r_16, hc_17, hf⟩ := bd_i hf
            refine r_wvi (As := [.long 1718576499]) (rest := []) X sm_X11_220 (c_X11_isWord l G N uY iY sY tY jY 1718576499 hc_17) hP hD hS hA 0 rfl rfl rfl hl.1 (lv_room (Nat.le_of_ble_eq_true rfl)) ⟨Nat.le_of_ble_eq_true rfl, Nat.le_of_ble_eq_true rfl⟩ ⟨Nat.zero_le _, Nat.zero_le _⟩ dX11_line_83 (fun H locs hP hD hS => ?_)
            refine lv_if_eq (tgt := 96) X.hx X.hb dX11_line_86 (by decide) (fun hc_18 => ?_) (fun hc_18 => ?_)
            · replace hf := if_t hf hc_18
              refine lv_aload_n X.hx X.hb dX11_line_96 rfl (lv_at hl 0 rfl) ?_
              refine lv_ldc2 (v := 431197613171) X.hx X.hb X.hown (X.hts _ tw_1300) dX11_line_97 ?_
              obtain ⟨r_19, hc_20, hf⟩ := bd_i hf
              refine r_wvi (As := [.long 431197613171]) (rest := []) X sm_X11_220 (c_X11_isWord l G N uY iY sY tY jY 431197613171 hc_20) hP hD hS hA 0 rfl rfl rfl hl.1 (lv_room (Nat.le_of_ble_eq_true rfl)) ⟨Nat.le_of_ble_eq_true rfl, Nat.le_of_ble_eq_true rfl⟩ ⟨Nat.zero_le _, Nat.zero_le _⟩ dX11_line_100 (fun H locs hP hD hS => ?_)
              refine lv_if_eq (tgt := 116) X.hx X.hb dX11_line_103 (by decide) (fun hc_21 => ?_) (fun hc_21 => ?_)
              · replace hf := if_t hf hc_21
                refine lv_aload_n X.hx X.hb dX11_line_116 rfl (lv_at hl 0 rfl) ?_
                refine lv_ldc2 (v := 508507548787) X.hx X.hb X.hown (X.hts _ tw_1301) dX11_line_117 ?_
                obtain ⟨r_22, hc_23, hf⟩ := bd_i hf
                refine r_wvi (As := [.long 508507548787]) (rest := []) X sm_X11_220 (c_X11_isWord l G N uY iY sY tY jY 508507548787 hc_23) hP hD hS hA 0 rfl rfl rfl hl.1 (lv_room (Nat.le_of_ble_eq_true rfl)) ⟨Nat.le_of_ble_eq_true rfl, Nat.le_of_ble_eq_true rfl⟩ ⟨Nat.zero_le _, Nat.zero_le _⟩ dX11_line_120 (fun H locs hP hD hS => ?_)
                refine lv_if_eq (tgt := 136) X.hx X.hb dX11_line_123 (by decide) (fun hc_24 => ?_) (fun hc_24 => ?_)
                · replace hf := if_t hf hc_24
                  refine lv_aload_n X.hx X.hb dX11_line_136 rfl (lv_at hl 0 rfl) ?_
                  refine lv_ldc2 (v := 1650814060) X.hx X.hb X.hown (X.hts _ tw_1302) dX11_line_137 ?_
                  obtain ⟨r_25, hc_26, hf⟩ := bd_i hf
                  refine r_wvi (As := [.long 1650814060]) (rest := []) X sm_X11_220 (c_X11_isWord l G N uY iY sY tY jY 1650814060 hc_26) hP hD hS hA 0 rfl rfl rfl hl.1 (lv_room (Nat.le_of_ble_eq_true rfl)) ⟨Nat.le_of_ble_eq_true rfl, Nat.le_of_ble_eq_true rfl⟩ ⟨Nat.zero_le _, Nat.zero_le _⟩ dX11_line_140 (fun H locs hP hD hS => ?_)
                  refine lv_if_eq (tgt := 158) X.hx X.hb dX11_line_143 (by decide) (fun hc_27 => ?_) (fun hc_27 => ?_)
                  · replace hf := if_t hf hc_27
                    refine lv_aload_n X.hx X.hb dX11_line_158 rfl (lv_at hl 0 rfl) ?_
                    refine lv_iconst (v := 1) X.hx X.hb dX11_line_159 (by decide) ?_
                    obtain ⟨⟨r_28, iY_29⟩, hc_30, hf⟩ := bd_i hf
                    refine r_wvi (As := [.int 1]) (rest := []) X sm_X11_183 (c_X11_bad l G N uY iY sY tY jY 1 hc_30) hP hD hS hA 0 rfl rfl rfl hl.1 (lv_room (Nat.le_of_ble_eq_true rfl)) ⟨Nat.le_of_ble_eq_true rfl, Nat.le_of_ble_eq_true rfl⟩ ⟨Nat.zero_le _, Nat.zero_le _⟩ dX11_line_160 (fun H locs hP hD hS => ?_)
                    obtain ⟨hb_31, hf⟩ := zb_i hf
                    cases hf
                    subst hQ
                    exact r_zret X hP hD hS hb_31 dX11_line_163
                  · replace hf := if_f hf hc_27
                    refine lv_aload_n X.hx X.hb dX11_line_146 rfl (lv_at hl 0 rfl) ?_
                    refine lv_iconst (v := 2) X.hx X.hb dX11_line_147 (by decide) ?_
                    refine lv_iconst (v := 4) X.hx X.hb dX11_line_148 (by decide) ?_
                    refine lv_iconst (v := 2) X.hx X.hb dX11_line_149 (by decide) ?_
                    refine lv_bipush (v := 30) X.hx X.hb dX11_line_150 (by decide) ?_
                    obtain ⟨⟨r_32, iY_33, sY_34, jY_35⟩, hc_36, hf⟩ := bd_i hf
                    refine r_wvi (As := [.int 2, .int 4, .int 2, .int 30]) (rest := []) X sm_X11_237 (c_X11_once l G N uY iY sY tY jY 2 4 2 30 hc_36) hP hD hS hA 0 rfl rfl rfl hl.1 (lv_room (Nat.le_of_ble_eq_true rfl)) ⟨Nat.le_of_ble_eq_true rfl, Nat.le_of_ble_eq_true rfl⟩ ⟨Nat.zero_le _, Nat.zero_le _⟩ dX11_line_152 (fun H locs hP hD hS => ?_)
                    refine lv_goto (tgt := 163) X.hx X.hb dX11_line_155 (by decide) ?_
                    obtain ⟨hb_37, hf⟩ := zb_i hf
                    cases hf
                    subst hQ
                    exact r_zret X hP hD hS hb_37 dX11_line_163
                · replace hf := if_f hf hc_24
                  refine lv_aload_n X.hx X.hb dX11_line_126 rfl (lv_at hl 0 rfl) ?_
                  refine lv_iconst (v := 1) X.hx X.hb dX11_line_127 (by decide) ?_
                  refine lv_iconst (v := 3) X.hx X.hb dX11_line_128 (by decide) ?_
                  refine lv_iconst (v := 0) X.hx X.hb dX11_line_129 (by decide) ?_
                  refine lv_bipush (v := 9) X.hx X.hb dX11_line_130 (by decide) ?_
                  obtain ⟨⟨r_38, iY_39, sY_40, jY_41⟩, hc_42, hf⟩ := bd_i hf
                  refine r_wvi (As := [.int 1, .int 3, .int 0, .int 9]) (rest := []) X sm_X11_237 (c_X11_once l G N uY iY sY tY jY 1 3 0 9 hc_42) hP hD hS hA 0 rfl rfl rfl hl.1 (lv_room (Nat.le_of_ble_eq_true rfl)) ⟨Nat.le_of_ble_eq_true rfl, Nat.le_of_ble_eq_true rfl⟩ ⟨Nat.zero_le _, Nat.zero_le _⟩ dX11_line_132 (fun H locs hP hD hS => ?_)
                  obtain ⟨hb_43, hf⟩ := zb_i hf
                  cases hf
                  subst hQ
                  exact r_zret X hP hD hS hb_43 dX11_line_135
              · replace hf := if_f hf hc_21
                refine lv_aload_n X.hx X.hb dX11_line_106 rfl (lv_at hl 0 rfl) ?_
                refine lv_iconst (v := 0) X.hx X.hb dX11_line_107 (by decide) ?_
                refine lv_iconst (v := 2) X.hx X.hb dX11_line_108 (by decide) ?_
                refine lv_iconst (v := 1) X.hx X.hb dX11_line_109 (by decide) ?_
                refine lv_bipush (v := 9) X.hx X.hb dX11_line_110 (by decide) ?_
                obtain ⟨⟨r_44, iY_45, sY_46, jY_47⟩, hc_48, hf⟩ := bd_i hf
                refine r_wvi (As := [.int 0, .int 2, .int 1, .int 9]) (rest := []) X sm_X11_237 (c_X11_once l G N uY iY sY tY jY 0 2 1 9 hc_48) hP hD hS hA 0 rfl rfl rfl hl.1 (lv_room (Nat.le_of_ble_eq_true rfl)) ⟨Nat.le_of_ble_eq_true rfl, Nat.le_of_ble_eq_true rfl⟩ ⟨Nat.zero_le _, Nat.zero_le _⟩ dX11_line_112 (fun H locs hP hD hS => ?_)
                obtain ⟨hb_49, hf⟩ := zb_i hf
                cases hf
                subst hQ
                exact r_zret X hP hD hS hb_49 dX11_line_115
            · replace hf := if_f hf hc_18
              refine lv_aload_n X.hx X.hb dX11_line_89 rfl (lv_at hl 0 rfl) ?_
              refine lv_bipush (v := 124) X.hx X.hb dX11_line_90 (by decide) ?_
              obtain ⟨⟨r_50, iY_51, sY_52, jY_53⟩, hc_54, hf⟩ := bd_i hf
              refine r_wvi (As := [.int 124]) (rest := []) X sm_X11_234 (c_X11_readPair l G N uY iY sY tY jY 124 hc_54) hP hD hS hA 0 rfl rfl rfl hl.1 (lv_room (Nat.le_of_ble_eq_true rfl)) ⟨Nat.le_of_ble_eq_true rfl, Nat.le_of_ble_eq_true rfl⟩ ⟨Nat.zero_le _, Nat.zero_le _⟩ dX11_line_92 (fun H locs hP hD hS => ?_)
              obtain ⟨hb_55, hf⟩ := zb_i hf
              cases hf
              subst hQ
              exact r_zret X hP hD hS hb_55 dX11_line_95
          · replace hf := if_f hf hc_15
            refine lv_aload_n X.hx X.hb dX11_line_72 rfl (lv_at hl 0 rfl) ?_
            refine lv_bipush (v := 117) X.hx X.hb dX11_line_73 (by decide) ?_
            obtain ⟨⟨r_56, iY_57, sY_58, jY_59⟩, hc_60, hf⟩ := bd_i hf
            refine r_wvi (As := [.int 117]) (rest := []) X sm_X11_234 (c_X11_readPair l G N uY iY sY tY jY 117 hc_60) hP hD hS hA 0 rfl rfl rfl hl.1 (lv_room (Nat.le_of_ble_eq_true rfl)) ⟨Nat.le_of_ble_eq_true rfl, Nat.le_of_ble_eq_true rfl⟩ ⟨Nat.zero_le _, Nat.zero_le _⟩ dX11_line_75 (fun H locs hP hD hS => ?_)
            obtain ⟨hb_61, hf⟩ := zb_i hf
            cases hf
            subst hQ
            exact r_zret X hP hD hS hb_61 dX11_line_78
        · replace hf := if_f hf hc_12
          refine lv_aload_n X.hx X.hb dX11_line_56 rfl (lv_at hl 0 rfl) ?_
          refine lv_iconst (v := 0) X.hx X.hb dX11_line_57 (by decide) ?_
          obtain ⟨⟨r_62, iY_63, sY_64, jY_65⟩, hc_66, hf⟩ := bd_i hf
          refine r_wvi (As := [.int 0]) (rest := []) X sm_X11_230 (c_X11_readTrade l G N uY iY sY tY jY 0 hc_66) hP hD hS hA 0 rfl rfl rfl hl.1 (lv_room (Nat.le_of_ble_eq_true rfl)) ⟨Nat.le_of_ble_eq_true rfl, Nat.le_of_ble_eq_true rfl⟩ ⟨Nat.zero_le _, Nat.zero_le _⟩ dX11_line_58 (fun H locs hP hD hS => ?_)
          obtain ⟨hb_67, hf⟩ := zb_i hf
          cases hf
          subst hQ
          exact r_zret X hP hD hS hb_67 dX11_line_61
      · replace hf := if_f hf hc_9
        refine lv_aload_n X.hx X.hb dX11_line_40 rfl (lv_at hl 0 rfl) ?_
        refine lv_iconst (v := 1) X.hx X.hb dX11_line_41 (by decide) ?_
        obtain ⟨⟨r_68, iY_69, sY_70, jY_71⟩, hc_72, hf⟩ := bd_i hf
        refine r_wvi (As := [.int 1]) (rest := []) X sm_X11_230 (c_X11_readTrade l G N uY iY sY tY jY 1 hc_72) hP hD hS hA 0 rfl rfl rfl hl.1 (lv_room (Nat.le_of_ble_eq_true rfl)) ⟨Nat.le_of_ble_eq_true rfl, Nat.le_of_ble_eq_true rfl⟩ ⟨Nat.zero_le _, Nat.zero_le _⟩ dX11_line_42 (fun H locs hP hD hS => ?_)
        obtain ⟨hb_73, hf⟩ := zb_i hf
        cases hf
        subst hQ
        exact r_zret X hP hD hS hb_73 dX11_line_45
    · replace hf := if_f hf hc_6
      refine lv_aload_n X.hx X.hb dX11_line_25 rfl (lv_at hl 0 rfl) ?_
      obtain ⟨⟨r_74, iY_75, sY_76, tY_77, jY_78⟩, hc_79, hf⟩ := bd_i hf
      refine r_wvi (As := []) (rest := []) X sm_X11_227 (c_X11_readGood l G N uY iY sY tY jY hc_79) hP hD hS hA 0 rfl rfl rfl hl.1 (lv_room (Nat.le_of_ble_eq_true rfl)) ⟨Nat.le_of_ble_eq_true rfl, Nat.le_of_ble_eq_true rfl⟩ ⟨Nat.zero_le _, Nat.zero_le _⟩ dX11_line_26 (fun H locs hP hD hS => ?_)
      obtain ⟨hb_80, hf⟩ := zb_i hf
      cases hf
      subst hQ
      exact r_zret X hP hD hS hb_80 dX11_line_29
  · replace hf := if_f hf hc_3
    refine lv_aload_n X.hx X.hb dX11_line_10 rfl (lv_at hl 0 rfl) ?_
    obtain ⟨⟨r_81, iY_82, sY_83, tY_84, jY_85⟩, hc_86, hf⟩ := bd_i hf
    refine r_wvi (As := []) (rest := []) X sm_X11_224 (c_X11_readPerson l G N uY iY sY tY jY hc_86) hP hD hS hA 0 rfl rfl rfl hl.1 (lv_room (Nat.le_of_ble_eq_true rfl)) ⟨Nat.le_of_ble_eq_true rfl, Nat.le_of_ble_eq_true rfl⟩ ⟨Nat.zero_le _, Nat.zero_le _⟩ dX11_line_11 (fun H locs hP hD hS => ?_)
    obtain ⟨hb_87, hf⟩ := zb_i hf
    cases hf
    subst hQ
    exact r_zret X hP hD hS hb_87 dX11_line_14

def f_X11_morning_2 (N : Nat) (iY : Nat → Int32) (tY : Nat → Nat → Int64) (jY : Nat → Int64) (K_1 : ((Nat → Nat → Int32)) → Option ((Nat → Nat → Int32))) : Nat → (Nat → Nat → Int32) → (Int32) → Option ((Nat → Nat → Int32))
  | 0, _, _ => none
  | k + 1, sY, v1 => (if (35 : Int32) ≤ v1 then K_1 sY else ck ((12 : Int32) + v1) 457 (ck ((143 : Int32) + v1) 457 (nv (upd (sY 6) (ix ((143 : Int32) + v1)) ((sY 6) (ix ((12 : Int32) + v1)))) (fun g_21 => ck ((82 : Int32) + v1) 457 (ck ((178 : Int32) + v1) 457 (nv (upd g_21 (ix ((178 : Int32) + v1)) (g_21 (ix ((82 : Int32) + v1)))) (fun g_24 => f_X11_morning_2 N iY tY jY K_1 k (va_up sY 6 g_24) (v1 + 1))))))))
def f_X11_morning (N : Nat) (iY : Nat → Int32) (sY : Nat → Nat → Int32) (tY : Nat → Nat → Int64) (jY : Nat → Int64) : Option ((Nat → Nat → Int32)) :=
  jn (fun (z : (Nat → Nat → Int32)) => match z with | sY_4 => nv (upd (sY_4 6) 133 0) (fun g_5 => nv (upd g_5 134 0) (fun g_6 => nv (upd g_6 135 (g_6 3)) (fun g_7 => some (va_up sY_4 6 g_7))))) (fun K_1 => f_X11_morning_2 N iY tY jY K_1 N sY 0)
set_option maxHeartbeats 4000000 in
set_option maxRecDepth 100000 in
theorem c_X11_morning (l : Launch) (G : GT) (N : Nat) (uY : Nat → Nat) (iY : Nat → Int32) (sY : Nat → Nat → Int32) (tY : Nat → Nat → Int64) (jY : Nat → Int64) {sY' : Nat → Nat → Int32} (hf : f_X11_morning N iY sY tY jY = some sY') : CV l G yX11_morning cX11_morning 2 1 [.ref (uY 0)] (gY G uY iY sY tY jY) (gY G uY iY sY' tY jY) := by
  refine CV.of (by decide) (Nat.le_of_ble_eq_true rfl) ?_
  intro p e s m args below meth c A X hA hP hD hS ls hl
  have hl : lv_has ls 2 [(0, .ref (uY 0))] := hl
  generalize hQ : MQ below (QV G A (gY G uY iY sY' tY jY)) args s 0 0 A = QQ
  unfold f_X11_morning at hf
  refine lv_iconst (v := 0) X.hx X.hb dX11_morning_0 (by decide) ?_
  refine lv_istore_n (lv' := [(1, .int 0), (0, .ref (uY 0))]) X.hx X.hb dX11_morning_1 rfl hl (by decide) rfl (fun ls hl => ?_)
  obtain ⟨K_1, eK_3, hf⟩ := jn_i hf
  have hj_2 : ∀ (sY_4 : Nat → Nat → Int32) (H : Heap) (locs : List Loc) (ls : Array Slot), K_1 sY_4 = some sY' → va_P G.1 vwCl (gY G uY iY sY_4 tY jY) H → va_D A (gY G uY iY sY_4 tY jY) → va_S A s.heap H locs → lv_has ls 2 [(0, .ref (uY 0))] → W p l e (RM 1) s m args below meth c H locs 0 0 QQ (F0 m 52 ls []) := by
    intro sY_4 H locs ls hf hP hD hS hl
    rw [eK_3] at hf
    try dsimp only at hf
    refine lv_aload_n X.hx X.hb dX11_morning_52 rfl (lv_at hl 0 rfl) ?_
    refine gf_X11_33 X hP 0 rfl (v := .ref (uY 7)) rfl dX11_morning_53 ?_
    refine lv_sipush (v := 133) X.hx X.hb dX11_morning_56 (by decide) ?_
    refine lv_iconst (v := 0) X.hx X.hb dX11_morning_59 (by decide) ?_
    obtain ⟨g_5, eg_5, hf⟩ := nv_i hf
    refine r_iast X hP hD hS 2 (f := (sY_4 6)) rfl (vp_c rfl) (wo := (gY G uY iY (va_up sY_4 6 g_5) tY jY)) (by subst eg_5; rfl) dX11_morning_60 (fun H locs hP hD hS => ?_)
    refine lv_aload_n X.hx X.hb dX11_morning_61 rfl (lv_at hl 0 rfl) ?_
    refine gf_X11_33 X hP 0 rfl (v := .ref (uY 7)) rfl dX11_morning_62 ?_
    refine lv_sipush (v := 134) X.hx X.hb dX11_morning_65 (by decide) ?_
    refine lv_iconst (v := 0) X.hx X.hb dX11_morning_68 (by decide) ?_
    obtain ⟨g_6, eg_6, hf⟩ := nv_i hf
    refine r_iast X hP hD hS 2 (f := g_5) rfl (vp_c rfl) (wo := (gY G uY iY (va_up sY_4 6 g_6) tY jY)) (by subst eg_6; rfl) dX11_morning_69 (fun H locs hP hD hS => ?_)
    refine lv_aload_n X.hx X.hb dX11_morning_70 rfl (lv_at hl 0 rfl) ?_
    refine gf_X11_33 X hP 0 rfl (v := .ref (uY 7)) rfl dX11_morning_71 ?_
    refine lv_sipush (v := 135) X.hx X.hb dX11_morning_74 (by decide) ?_
    refine lv_aload_n X.hx X.hb dX11_morning_77 rfl (lv_at hl 0 rfl) ?_
    refine gf_X11_33 X hP 0 rfl (v := .ref (uY 7)) rfl dX11_morning_78 ?_
    refine lv_iconst (v := 3) X.hx X.hb dX11_morning_81 (by decide) ?_
    refine r_iald X hP 2 (f := g_6) rfl (vp_c rfl) dX11_morning_82 ?_
    refine W.eq (g2 := F0 m 83 ls [.int (g_6 3), .int 135, .ref (uY 7)]) rfl ?_
    obtain ⟨g_7, eg_7, hf⟩ := nv_i hf
    refine r_iast X hP hD hS 2 (f := g_6) rfl (vp_c rfl) (wo := (gY G uY iY (va_up sY_4 6 g_7) tY jY)) (by subst eg_7; rfl) dX11_morning_83 (fun H locs hP hD hS => ?_)
    cases hf
    subst hQ
    exact r_vret X hP hD hS dX11_morning_84
  have hlo_8 : ∀ (k : Nat) (sY_9 : Nat → Nat → Int32) (v1_10 : Int32) (H : Heap) (locs : List Loc) (ls : Array Slot), f_X11_morning_2 N iY tY jY K_1 k sY_9 v1_10 = some sY' → va_P G.1 vwCl (gY G uY iY sY_9 tY jY) H → va_D A (gY G uY iY sY_9 tY jY) → va_S A s.heap H locs → lv_has ls 2 [(0, .ref (uY 0)), (1, .int v1_10)] → W p l e (RM 1) s m args below meth c H locs 0 0 QQ (F0 m 2 ls []) := by
    intro k
    induction k with
    | zero => intro sY_9 v1_10 H locs ls hf; exact absurd hf (by intro q; cases q)
    | succ k ih =>
      intro sY_9 v1_10 H locs ls hf hP hD hS hl
      unfold f_X11_morning_2 at hf
      refine lv_iload_n X.hx X.hb dX11_morning_2 rfl (lv_at hl 1 rfl) ?_
      refine lv_bipush (v := 35) X.hx X.hb dX11_morning_3 (by decide) ?_
      refine lv_icmp_ge (tgt := 52) X.hx X.hb dX11_morning_5 (by decide) (fun hc_11 => ?_) (fun hc_11 => ?_)
      · replace hf := if_t hf hc_11
        exact hj_2 _ _ _ _ hf hP hD hS (lv_sub hl [0] rfl)
      · replace hf := if_f hf hc_11
        refine lv_aload_n X.hx X.hb dX11_morning_8 rfl (lv_at hl 0 rfl) ?_
        refine gf_X11_33 X hP 0 rfl (v := .ref (uY 7)) rfl dX11_morning_9 ?_
        refine lv_sipush (v := 143) X.hx X.hb dX11_morning_12 (by decide) ?_
        refine lv_iload_n X.hx X.hb dX11_morning_15 rfl (lv_at hl 1 rfl) ?_
        refine lv_iadd X.hx X.hb dX11_morning_16 ?_
        refine lv_aload_n X.hx X.hb dX11_morning_17 rfl (lv_at hl 0 rfl) ?_
        refine gf_X11_33 X hP 0 rfl (v := .ref (uY 7)) rfl dX11_morning_18 ?_
        refine lv_bipush (v := 12) X.hx X.hb dX11_morning_21 (by decide) ?_
        refine lv_iload_n X.hx X.hb dX11_morning_23 rfl (lv_at hl 1 rfl) ?_
        refine lv_iadd X.hx X.hb dX11_morning_24 ?_
        obtain ⟨hi_12, hf⟩ := ck_i hf
        refine r_iald X hP 2 (f := (sY_9 6)) rfl hi_12 dX11_morning_25 ?_
        obtain ⟨hi_13, hf⟩ := ck_i hf
        obtain ⟨g_14, eg_14, hf⟩ := nv_i hf
        refine r_iast X hP hD hS 2 (f := (sY_9 6)) rfl hi_13 (wo := (gY G uY iY (va_up sY_9 6 g_14) tY jY)) (by subst eg_14; rfl) dX11_morning_26 (fun H locs hP hD hS => ?_)
        refine lv_aload_n X.hx X.hb dX11_morning_27 rfl (lv_at hl 0 rfl) ?_
        refine gf_X11_33 X hP 0 rfl (v := .ref (uY 7)) rfl dX11_morning_28 ?_
        refine lv_sipush (v := 178) X.hx X.hb dX11_morning_31 (by decide) ?_
        refine lv_iload_n X.hx X.hb dX11_morning_34 rfl (lv_at hl 1 rfl) ?_
        refine lv_iadd X.hx X.hb dX11_morning_35 ?_
        refine lv_aload_n X.hx X.hb dX11_morning_36 rfl (lv_at hl 0 rfl) ?_
        refine gf_X11_33 X hP 0 rfl (v := .ref (uY 7)) rfl dX11_morning_37 ?_
        refine lv_bipush (v := 82) X.hx X.hb dX11_morning_40 (by decide) ?_
        refine lv_iload_n X.hx X.hb dX11_morning_42 rfl (lv_at hl 1 rfl) ?_
        refine lv_iadd X.hx X.hb dX11_morning_43 ?_
        obtain ⟨hi_15, hf⟩ := ck_i hf
        refine r_iald X hP 2 (f := g_14) rfl hi_15 dX11_morning_44 ?_
        obtain ⟨hi_16, hf⟩ := ck_i hf
        obtain ⟨g_17, eg_17, hf⟩ := nv_i hf
        refine r_iast X hP hD hS 2 (f := g_14) rfl hi_16 (wo := (gY G uY iY (va_up sY_9 6 g_17) tY jY)) (by subst eg_17; rfl) dX11_morning_45 (fun H locs hP hD hS => ?_)
        refine lv_iinc (v := (v1_10 + 1)) (lv' := [(1, .int (v1_10 + 1)), (0, .ref (uY 0))]) X.hx X.hb dX11_morning_46 hl (k := 1) rfl rfl (by decide) rfl (fun ls hl => ?_)
        refine lv_goto (tgt := 2) X.hx X.hb dX11_morning_49 (by decide) ?_
        exact ih _ _ _ _ _ hf hP hD hS (lv_sub hl [1, 0] rfl)
  exact hlo_8 N _ _ _ _ _ hf hP hD hS (lv_sub hl [1, 0] rfl)

