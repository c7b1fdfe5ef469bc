def nv {α β : Type} (a : α) (k : α → Option β) : Option β := k a
theorem nv_i {α β : Type} {a : α} {k : α → Option β} {v : β} (h : nv a k = some v) : ∃ x, x = a ∧ k x = some v := ⟨a, rfl, h⟩
def jn {σ β : Type} (k : σ → Option β) (b : (σ → Option β) → Option β) : Option β := b k
theorem jn_i {σ β : Type} {k : σ → Option β} {b : (σ → Option β) → Option β} {v : β} (h : jn k b = some v) : ∃ K, K = k ∧ b K = some v := ⟨k, rfl, h⟩
def us (x y : Int32) : Int32 := (x.toUInt32 >>> (y.toUInt32 &&& Int32.toUInt32 31)).toInt32
def usl (x : Int64) (y : Int32) : Int64 := (x.toUInt64 >>> (y.toInt64.toUInt64 &&& Int64.toUInt64 63)).toInt64
def sll (x : Int64) (y : Int32) : Int64 := x <<< (y.toInt64 &&& 63)
def srl (x : Int64) (y : Int32) : Int64 := x >>> (y.toInt64 &&& 63)
theorem vp_c {i : Int32} {n : Nat} (h : decide (i < 0 ∨ n ≤ i.toNatClampNeg) = false) : vp_in i n := of_decide_eq_false h
def fl_i (n : Nat) (f : Nat → Int32) (v : Int32) : Nat → Int32 := fun k => if k < n then v else f k
def fl_l (n : Nat) (f : Nat → Int64) (v : Int64) : Nat → Int64 := fun k => if k < n then v else f k
def tb_ok (dflt lo hi : Int) (offs : Array Int) (L : List Int) : Bool := decide ((hi - lo + 1).toNat ≤ offs.size) && (List.range offs.size).all (fun j => decide ((lo + (j : Int)) ∈ L) || offs[j]? == some dflt)
section MR
variable {p : Program} {l : Launch} {e : Env} {R : Room} {s : State} {m : MethodId} {args : Array Value} {below : List Frame} {meth : Method} {c : Code} {H H0 : Heap} {locs : List Loc} {cells slots : Nat} {Q : State → Prop}
variable {G : GT} {own : String} {cc : ByteArray} {nL : Nat} {ret : Option FieldType} {A : Nat → Prop} {ws wo : va_W} {pc a : Nat} {ls : Array Slot} {rest : List Value} {idx : Nat}
theorem r_nm {x y : Int32} (h : y = x) (k : W p l e R s m args below meth c H locs cells slots Q (F0 m pc ls (.int y :: rest))) : W p l e R s m args below meth c H locs cells slots Q (F0 m pc ls (.int x :: rest)) := by subst h; exact k
theorem r_nml {x y : Int64} (h : y = x) (k : W p l e R s m args below meth c H locs cells slots Q (F0 m pc ls (.long y :: rest))) : W p l e R s m args below meth c H locs cells slots Q (F0 m pc ls (.long x :: rest)) := by subst h; exact k
theorem r_tbd (hx : p.tables.exec = Jvm.exec) (hb : c.code = cc) {dflt lo hi : Int} {offs : Array Int} {len : Nat} {x : Int32} {tgt : Nat} (hdg : decode cc pc = .ok (.tableswitch dflt lo hi offs, len)) (L : List Int) (hL : tb_ok dflt lo hi offs L = true) (h : ∀ v ∈ L, ¬ x.toInt = v) (ht : (pc : Int) + dflt = (tgt : Int))
    (k : W p l e R s m args below meth c H locs cells slots Q (F0 m tgt ls rest)) : W p l e R s m args below meth c H locs cells slots Q (F0 m pc ls (.int x :: rest)) := by
  by_cases h1 : x.toInt < lo
  · exact lv_tableOut hx hb hdg (Or.inl h1) ht k
  · by_cases h2 : hi < x.toInt
    · exact lv_tableOut hx hb hdg (Or.inr h2) ht k
    · unfold tb_ok at hL
      rw [Bool.and_eq_true] at hL
      have h3 := of_decide_eq_true hL.1
      have h4 : (x.toInt - lo).toNat < offs.size := by omega
      have h5 := List.all_eq_true.mp hL.2 _ (List.mem_range.mpr h4)
      rw [Bool.or_eq_true] at h5
      have h6 : lo + ((x.toInt - lo).toNat : Int) = x.toInt := by omega
      rw [h6] at h5
      rcases h5 with h5 | h5
      · exact absurd rfl (h _ (of_decide_eq_true h5))
      · exact lv_tableIn hx hb hdg h1 h2 (eq_of_beq h5) ht k
theorem r_mmin (X : CX G A own cc nL ret p s m args meth c) (hk : Cond.methodLink own idx yJ9_min_7cf53 ∈ TT) (hls : ls.size = nL) (h1 : 1 ≤ R.frames) (h2 : (rest.map fun v => v.category).sum + 13 ≤ R.locals) (hc : cells ≤ R.cells) (hs : slots ≤ R.slots) {x y : Int32} (hdg : decode cc pc = .ok (.invokestatic idx, 3))
    (kk : W p l e R s m args below meth c H locs cells slots Q (F0 m (pc + 3) ls (.int (if y < x then y else x) :: rest))) : W p l e R s m args below meth c H locs cells slots Q (F0 m pc ls (.int y :: .int x :: rest)) :=
  va_mmin X.hx X.hb (X.hml.trans hls.symm) X.hown (X.hts _ hk) (X.hts _ tw_591) (X.hts _ tw_19) (X.hts _ tw_592) h1 h2 hc hs hdg kk
theorem r_mmax (X : CX G A own cc nL ret p s m args meth c) (hk : Cond.methodLink own idx yJ9_max_7cf53 ∈ TT) (hls : ls.size = nL) (h1 : 1 ≤ R.frames) (h2 : (rest.map fun v => v.category).sum + 13 ≤ R.locals) (hc : cells ≤ R.cells) (hs : slots ≤ R.slots) {x y : Int32} (hdg : decode cc pc = .ok (.invokestatic idx, 3))
    (kk : W p l e R s m args below meth c H locs cells slots Q (F0 m (pc + 3) ls (.int (if x < y then y else x) :: rest))) : W p l e R s m args below meth c H locs cells slots Q (F0 m pc ls (.int y :: .int x :: rest)) :=
  va_mmax X.hx X.hb (X.hml.trans hls.symm) X.hown (X.hts _ hk) (X.hts _ tw_879) (X.hts _ tw_19) (X.hts _ tw_880) h1 h2 hc hs hdg kk
theorem r_copyi (X : CX G A own cc nL ret p s m args meth c) (hk : Cond.methodLink own idx arraycopyName ∈ TT) (hP : va_P G.1 vwCl ws H) (hD : va_D A ws) (hS : va_S A H0 H locs) (q0 q1 : Nat) {a0 n0 n1 : Nat} {f g : Nat → Int32} (ha0 : ws[q0]? = some (a0, .inl (G.2.1 1, n0, .inl f))) (ha1 : ws[q1]? = some (a, .inl (G.2.1 1, n1, .inl g))) {sp dp n : Int32} (h1 : ¬ sp < 0) (h2 : ¬ dp < 0) (h3 : ¬ n < 0) (h4 : sp.toNatClampNeg + n.toNatClampNeg ≤ n0) (h5 : dp.toNatClampNeg + n.toNatClampNeg ≤ n1) (hls : ls.size = nL) (hfr : 1 ≤ R.frames) (hlo : (rest.map fun v => v.category).sum + (nativeFrameWords "java/lang/System" "arraycopy" 5 + 11) ≤ R.locals)
    (ho : ws.set q1 (a, .inl (G.2.1 1, n1, .inl (va_cpy f g sp.toNatClampNeg dp.toNatClampNeg n.toNatClampNeg))) = wo) (hdg : decode cc pc = .ok (.invokestatic idx, 3))
    (kk : ∀ (H1 : Heap) (locs1 : List Loc), va_P G.1 vwCl wo H1 → va_D A wo → va_S A H0 H1 locs1 → W p l e R s m args below meth c H1 locs1 cells slots Q (F0 m (pc + 3) ls rest)) : W p l e R s m args below meth c H locs cells slots Q (F0 m pc ls (.int n :: .int dp :: .ref a :: .int sp :: .ref a0 :: rest)) := by
  subst ho
  exact va_copyi X.hx X.hb (X.hml.trans hls.symm) X.hown (X.hts _ hk) (X.hts _ tw_508) (X.hts _ tw_507) (X.hts _ tw_17) X.hK hP hD hS q0 q1 1 1 ha0 ha1 rfl rfl rfl h1 h2 h3 h4 h5 (fun _ _ => rfl) hfr hlo hdg kk
theorem r_copyl (X : CX G A own cc nL ret p s m args meth c) (hk : Cond.methodLink own idx arraycopyName ∈ TT) (hP : va_P G.1 vwCl ws H) (hD : va_D A ws) (hS : va_S A H0 H locs) (q0 q1 : Nat) {a0 n0 n1 : Nat} {f g : Nat → Int64} (ha0 : ws[q0]? = some (a0, .inl (G.2.1 2, n0, .inr (.inl f)))) (ha1 : ws[q1]? = some (a, .inl (G.2.1 2, n1, .inr (.inl g)))) {sp dp n : Int32} (h1 : ¬ sp < 0) (h2 : ¬ dp < 0) (h3 : ¬ n < 0) (h4 : sp.toNatClampNeg + n.toNatClampNeg ≤ n0) (h5 : dp.toNatClampNeg + n.toNatClampNeg ≤ n1) (hls : ls.size = nL) (hfr : 1 ≤ R.frames) (hlo : (rest.map fun v => v.category).sum + (nativeFrameWords "java/lang/System" "arraycopy" 5 + 11) ≤ R.locals)
    (ho : ws.set q1 (a, .inl (G.2.1 2, n1, .inr (.inl (va_cpy f g sp.toNatClampNeg dp.toNatClampNeg n.toNatClampNeg)))) = wo) (hdg : decode cc pc = .ok (.invokestatic idx, 3))
    (kk : ∀ (H1 : Heap) (locs1 : List Loc), va_P G.1 vwCl wo H1 → va_D A wo → va_S A H0 H1 locs1 → W p l e R s m args below meth c H1 locs1 cells slots Q (F0 m (pc + 3) ls rest)) : W p l e R s m args below meth c H locs cells slots Q (F0 m pc ls (.int n :: .int dp :: .ref a :: .int sp :: .ref a0 :: rest)) := by
  subst ho
  exact va_copyl X.hx X.hb (X.hml.trans hls.symm) X.hown (X.hts _ hk) (X.hts _ tw_508) (X.hts _ tw_507) (X.hts _ tw_17) X.hK hP hD hS q0 q1 2 2 ha0 ha1 rfl rfl rfl h1 h2 h3 h4 h5 (fun _ _ => rfl) hfr hlo hdg kk
end MR
def kl8 (a0 a1 a2 a3 a4 a5 a6 a7 : Nat) : Nat → Option Nat := fun k => match k with
  | 0 => some a0
  | 1 => some a1
  | 2 => some a2
  | 3 => some a3
  | 4 => some a4
  | 5 => some a5
  | 6 => some a6
  | 7 => some a7
  | _ => none
def kq (ad : Nat → Nat → Nat) : Nat → Option Nat := kl8 (ad 0 0) (ad 1 0) (ad 2 0) (ad 3 0) (ad 4 0) (ad 5 0) (ad 6 0) (ad 7 0)
def gU (G : GT) (ad : Nat → Nat → Nat) (x0 : Nat) (i : Nat → Nat → Int32) (s : Nat → Nat → Nat → Int32) : va_W := gM G (ad 0) x0 (i 0) (s 0) ++ gM G (ad 1) x0 (i 1) (s 1) ++ gM G (ad 2) x0 (i 2) (s 2) ++ gM G (ad 3) x0 (i 3) (s 3) ++ gM G (ad 4) x0 (i 4) (s 4) ++ gM G (ad 5) x0 (i 5) (s 5) ++ gM G (ad 6) x0 (i 6) (s 6) ++ gM G (ad 7) x0 (i 7) (s 7)
theorem r_aast {p : Program} {l : Launch} {e : Env} {R : Room} {s : State} {m : MethodId} {args : Array Value} {below : List Frame} {meth : Method} {c : Code} {H H0 : Heap} {locs : List Loc} {cells slots : Nat} {Q : State → Prop} {G : GT} {own : String} {cc : ByteArray} {nL : Nat} {ret : Option FieldType} {A : Nat → Prop} {ws wo : va_W} {pc a : Nat} {ls : Array Slot} {rest : List Value}
    (X : CX G A own cc nL ret p s m args meth c) (hP : va_P G.1 vwCl ws H) (hD : va_D A ws) (hS : va_S A H0 H locs) (q0 qk : Nat) {n v : Nat} {vs : List Value} {f : Nat → Option Nat} (ha : ws[q0]? = some (a, .inl (G.2.1 4, n, .inr (.inr (.inr (.inr f)))))) (hv : ws[qk]? = some (v, .inr (4, vs))) {i : Int32} (hin : vp_in i n) (ho : ws.set q0 (a, .inl (G.2.1 4, n, .inr (.inr (.inr (.inr (va_up f i.toNatClampNeg (some v))))))) = wo) (hdg : decode cc pc = .ok (.aastore, 1))
    (kk : ∀ (H1 : Heap) (locs1 : List Loc), va_P G.1 vwCl wo H1 → va_D A wo → va_S A H0 H1 locs1 → W p l e R s m args below meth c H1 locs1 cells slots Q (F0 m (pc + 1) ls rest)) : W p l e R s m args below meth c H locs cells slots Q (F0 m pc ls (.ref v :: .int i :: .ref a :: rest)) := by
  subst ho
  exact va_astq X.hx X.hb X.hK hP hD hS q0 4 qk 4 (r := (RX4, TX4, 13)) ha rfl hv rfl hin hdg kk
