/-! the worlds: a loan's cells -/
abbrev gt (G : Nat → ClassId) : List (ClassId × FieldType) := [(G 0, .int), (G 1, .boolean), (G 2, .long), (G 3, .object "LoanDesk$Loan")]
def lc (G : Nat → ClassId) (a : Nat → Nat) (x0 x1 x2 x3 x4 x5 x6 x10 x11 x12 x13 x14 x15 x16 x20 x21 x22 x30 : Int32) (A1 A2 A3 A4 : Nat → Int32) : va_W := [(a 0, .inr (3, [.ref (a 1), .ref (a 2), .ref (a 3), .ref (a 4), .ref (a 5), .int x0, .int x1, .int x2, .int x3, .int x4, .int x5, .int x6, .ref (a 6)])), (a 1, .inr (4, [.int x10, .int x11, .int x12, .int x13, .int x14, .int x15, .int x16])), (a 2, .inr (1, [.int x20, .int x21, .int x22])), (a 3, .inr (2, [.ref (a 7), .int x30])), (a 4, .inl (G 0, 4, .inl A1)), (a 5, .inl (G 0, 6, .inl A2)), (a 6, .inl (G 0, 36, .inl A3)), (a 7, .inl (G 0, 250, .inl A4))]
def mkL (x0 x1 x2 x3 x4 x5 x6 x10 x11 x12 x13 x14 x15 x16 x20 x21 x22 x30 : Int32) (A1 A2 A3 A4 : Nat → Int32) : KS := fun r => match r with
  | 0 => fun i => (match i with
    | 0 => x0
    | 1 => x1
    | 2 => x2
    | 3 => x3
    | 4 => x4
    | 5 => x5
    | 6 => x6
    | 10 => x10
    | 11 => x11
    | 12 => x12
    | 13 => x13
    | 14 => x14
    | 15 => x15
    | 16 => x16
    | 20 => x20
    | 21 => x21
    | 22 => x22
    | _ => x30)
  | 1 => A1
  | 2 => A2
  | 3 => A3
  | _ => A4
def lcells (G : Nat → ClassId) (a : Nat → Nat) (S : KS) : va_W := lc G a (S 0 0) (S 0 1) (S 0 2) (S 0 3) (S 0 4) (S 0 5) (S 0 6) (S 0 10) (S 0 11) (S 0 12) (S 0 13) (S 0 14) (S 0 15) (S 0 16) (S 0 20) (S 0 21) (S 0 22) (S 0 30) (S 1) (S 2) (S 3) (S 4)
theorem hin_D : ∀ w ∈ u_ws RD TD 3, w ∈ GW := by
  intro w h
  obtain ⟨k, hk, rfl⟩ := List.mem_map.mp h
  have hk := List.mem_range.mp hk
  match k, hk with
  | 0, _ => exact gw_30
  | 1, _ => exact gw_32
  | 2, _ => exact gw_34
  | k + 3, h => exact absurd h (by omega)
theorem hin_A : ∀ w ∈ u_ws RA TA 3, w ∈ GW := by
  intro w h
  obtain ⟨k, hk, rfl⟩ := List.mem_map.mp h
  have hk := List.mem_range.mp hk
  match k, hk with
  | 0, _ => exact gw_184
  | 1, _ => exact gw_186
  | 2, _ => exact gw_188
  | k + 3, h => exact absurd h (by omega)
theorem hin_B : ∀ w ∈ u_ws RB TB 2, w ∈ GW := by
  intro w h
  obtain ⟨k, hk, rfl⟩ := List.mem_map.mp h
  have hk := List.mem_range.mp hk
  match k, hk with
  | 0, _ => exact gw_200
  | 1, _ => exact gw_202
  | k + 2, h => exact absurd h (by omega)
theorem hin_N : ∀ w ∈ u_ws RN TN 13, w ∈ GW := by
  intro w h
  obtain ⟨k, hk, rfl⟩ := List.mem_map.mp h
  have hk := List.mem_range.mp hk
  match k, hk with
  | 0, _ => exact gw_235
  | 1, _ => exact gw_237
  | 2, _ => exact gw_239
  | 3, _ => exact gw_241
  | 4, _ => exact gw_243
  | 5, _ => exact gw_245
  | 6, _ => exact gw_247
  | 7, _ => exact gw_249
  | 8, _ => exact gw_251
  | 9, _ => exact gw_253
  | 10, _ => exact gw_255
  | 11, _ => exact gw_257
  | 12, _ => exact gw_259
  | k + 13, h => exact absurd h (by omega)
theorem hin_T : ∀ w ∈ u_ws RT TT 7, w ∈ GW := by
  intro w h
  obtain ⟨k, hk, rfl⟩ := List.mem_map.mp h
  have hk := List.mem_range.mp hk
  match k, hk with
  | 0, _ => exact gw_152
  | 1, _ => exact gw_154
  | 2, _ => exact gw_156
  | 3, _ => exact gw_158
  | 4, _ => exact gw_160
  | 5, _ => exact gw_162
  | 6, _ => exact gw_164
  | k + 7, h => exact absurd h (by omega)
theorem hin_M : ∀ w ∈ u_ws RM TM 28, w ∈ GW := by
  intro w h
  obtain ⟨k, hk, rfl⟩ := List.mem_map.mp h
  have hk := List.mem_range.mp hk
  match k, hk with
  | 0, _ => exact gw_522
  | 1, _ => exact gw_524
  | 2, _ => exact gw_526
  | 3, _ => exact gw_528
  | 4, _ => exact gw_530
  | 5, _ => exact gw_532
  | 6, _ => exact gw_534
  | 7, _ => exact gw_536
  | 8, _ => exact gw_538
  | 9, _ => exact gw_540
  | 10, _ => exact gw_542
  | 11, _ => exact gw_544
  | 12, _ => exact gw_546
  | 13, _ => exact gw_548
  | 14, _ => exact gw_550
  | 15, _ => exact gw_552
  | 16, _ => exact gw_554
  | 17, _ => exact gw_556
  | 18, _ => exact gw_558
  | 19, _ => exact gw_560
  | 20, _ => exact gw_562
  | 21, _ => exact gw_564
  | 22, _ => exact gw_566
  | 23, _ => exact gw_568
  | 24, _ => exact gw_570
  | 25, _ => exact gw_572
  | 26, _ => exact gw_574
  | 27, _ => exact gw_576
  | k + 28, h => exact absurd h (by omega)
theorem kw_fin {k : Int32 × KS} {v : Int32} {S : KS} {f : KS → va_W} {w : va_W} (hw : w = f S) (h : k = (v, S)) : v = k.1 ∧ w = f k.2 := by
  subst h
  exact ⟨rfl, hw⟩
theorem kw_fin1 {k S : KS} {f : KS → va_W} {w : va_W} (hw : w = f S) (h : k = S) : w = f k := by
  subst h
  exact hw
def kmin (x y : Int32) : Int32 := if y < x then y else x
def kmax (x y : Int32) : Int32 := if x < y then y else x
section KMM
variable {p : Program} {l : Launch} {e : Env} {R : Room} {s : State} {m : MethodId} {args : Array Value} {below : List Frame} {meth : Method} {c : Code} {H : Heap} {locs : List Loc} {cells slots : Nat} {Q : State → Prop}
variable {pc : Nat} {ls : Array Slot} {rest : List Value}
theorem kw_mmax {cc : ByteArray} (hexec : p.tables.exec = Jvm.exec) (hb : c.code = cc) (hml : c.maxLocals = ls.size) {own : String} {index : Nat} (hown : s.vm.findClass own = some m.cls) (hlink : (Cond.methodLink own index Lib.Math.max.name).before args s = true) (hstat : (Cond.static Lib.Math.max.name).before args s = true) (hini : (Cond.initialized "java/lang/Math").before args s = true) (hcode : (Cond.code Lib.Math.max.name Lib.Math.max.code 2 (some .int)).before args s = true)
    (hframes : 1 ≤ R.frames) (hlocals : (rest.map fun v => v.category).sum + 13 ≤ R.locals) (hc : cells ≤ R.cells) (hs : slots ≤ R.slots) {x y : Int32} (hdg : decode cc pc = .ok (.invokestatic index, 3))
    (kk : W p l e R s m args below meth c H locs cells slots Q (F0 m (pc + 3) ls (.int (kmax x y) :: rest))) : W p l e R s m args below meth c H locs cells slots Q (F0 m pc ls (.int y :: .int x :: rest)) :=
  va_mmax hexec hb hml hown hlink hstat hini hcode hframes hlocals hc hs hdg kk
theorem kw_mmin {cc : ByteArray} (hexec : p.tables.exec = Jvm.exec) (hb : c.code = cc) (hml : c.maxLocals = ls.size) {own : String} {index : Nat} (hown : s.vm.findClass own = some m.cls) (hlink : (Cond.methodLink own index Lib.Math.min.name).before args s = true) (hstat : (Cond.static Lib.Math.min.name).before args s = true) (hini : (Cond.initialized "java/lang/Math").before args s = true) (hcode : (Cond.code Lib.Math.min.name Lib.Math.min.code 2 (some .int)).before args s = true)
    (hframes : 1 ≤ R.frames) (hlocals : (rest.map fun v => v.category).sum + 13 ≤ R.locals) (hc : cells ≤ R.cells) (hs : slots ≤ R.slots) {x y : Int32} (hdg : decode cc pc = .ok (.invokestatic index, 3))
    (kk : W p l e R s m args below meth c H locs cells slots Q (F0 m (pc + 3) ls (.int (kmin x y) :: rest))) : W p l e R s m args below meth c H locs cells slots Q (F0 m pc ls (.int y :: .int x :: rest)) :=
  va_mmin hexec hb hml hown hlink hstat hini hcode hframes hlocals hc hs hdg kk
end KMM
theorem kw_ixin {i : Int32} {n N : Nat} (h : i = nI n) (hn : n < N) (hN : N < 2 ^ 31) : vp_in i N := by
  subst h
  exact vp_in_nI hn hN
theorem kw_ixj {i : Int32} {n : Nat} (h : i = nI n) (hn : n < 2 ^ 31) : i.toNatClampNeg = n := by
  subst h
  exact nI_clamp hn
theorem kb_at {x : Int32} {n : Nat} (h : x = nI n) : x * 5 = nI (n * 5) := by
  subst h
  exact pk_mul n 5
theorem kb_lt {x : Int32} {n : Nat} (h : x < (50 : Int32)) (hx : x = nI n) (hn : n ≤ 50) : n < 50 := by
  subst hx
  exact (nI_ltI (a := n) (b := 50) (by omega) (by decide)).mp h
theorem kb_pos {x : Int32} {n : Nat} (h : ¬ x ≤ 0) (hx : x = nI n) : 1 ≤ n := by
  subst hx
  rcases Nat.lt_or_ge 0 n with q | q
  · exact q
  · have : n = 0 := by omega
    subst this
    exact absurd (show nI 0 ≤ 0 by decide) h
theorem kb_last {x : Int32} {n : Nat} (h : ¬ x ≤ 0) (hx : x = nI n) : (x - 1) * 5 = nI ((n - 1) * 5) := by
  have h1 := kb_pos h hx
  subst hx
  obtain ⟨k, rfl⟩ : ∃ k, n = k + 1 := ⟨n - 1, by omega⟩
  rw [nI_pred]
  exact pk_mul k 5
/-- a counter that goes up to N -/
def kn_in (i : Int32) (N : Nat) : Prop := ∃ k : Nat, k ≤ N ∧ i = nI k
theorem kn_0 {N : Nat} : kn_in 0 N := ⟨0, Nat.zero_le _, rfl⟩
theorem kn_lt {i : Int32} {N : Nat} (h : kn_in i N) (h2 : ¬ nI N ≤ i) (hN : N < 2 ^ 31) : ∃ k : Nat, k < N ∧ i = nI k := by
  obtain ⟨k, h1, rfl⟩ := h
  refine ⟨k, ?_, rfl⟩
  rcases Nat.lt_or_ge k N with q | q
  · exact q
  · exact absurd (nI_le q (by omega)) h2
theorem kn_s {i : Int32} {N : Nat} (h : kn_in i N) (h2 : ¬ nI N ≤ i) (hN : N < 2 ^ 31) : kn_in (i + 1) N := by
  obtain ⟨k, h1, rfl⟩ := kn_lt h h2 hN
  exact ⟨k + 1, h1, nI_1 k⟩
theorem kn_at {i : Int32} {N : Nat} (h : kn_in i N) (h2 : ¬ nI N ≤ i) (hN : N < 2 ^ 31) : vp_in i N := by
  obtain ⟨k, h1, rfl⟩ := kn_lt h h2 hN
  exact vp_in_nI h1 hN
