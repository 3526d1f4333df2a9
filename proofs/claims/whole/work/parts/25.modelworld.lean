/-! the reference's cells; ends that leave its three scratch numbers open -/
def lm (G : Nat → ClassId) (b : Nat → Nat) (x0 x1 x2 x3 x4 x5 : Int32) (A1 A2 A3 A4 A5 A6 A7 A8 A9 A10 A11 A12 A13 A14 A15 A16 A17 A18 A19 A20 A21 A22 : Nat → Int32) : va_W := [(b 0, .inr (5, [.int x0, .int x1, .int x2, .ref (b 3), .ref (b 4), .ref (b 5), .ref (b 6), .ref (b 7), .ref (b 8), .ref (b 9), .ref (b 10), .ref (b 11), .ref (b 12), .ref (b 13), .ref (b 14), .ref (b 15), .ref (b 16), .ref (b 17), .ref (b 18), .ref (b 19), .ref (b 20), .ref (b 21), .ref (b 22), .ref (b 23), .ref (b 24), .int x3, .int x4, .int x5])), (b 3, .inl (G 0, 3, .inl A1)), (b 4, .inl (G 0, 3, .inl A2)), (b 5, .inl (G 0, 3, .inl A3)), (b 6, .inl (G 0, 3, .inl A4)), (b 7, .inl (G 0, 3, .inl A5)), (b 8, .inl (G 1, 3, .inl A6)), (b 9, .inl (G 0, 3, .inl A7)), (b 10, .inl (G 0, 3, .inl A8)), (b 11, .inl (G 0, 3, .inl A9)), (b 12, .inl (G 0, 3, .inl A10)), (b 13, .inl (G 0, 3, .inl A11)), (b 14, .inl (G 0, 3, .inl A12)), (b 15, .inl (G 0, 3, .inl A13)), (b 16, .inl (G 0, 12, .inl A14)), (b 17, .inl (G 1, 3, .inl A15)), (b 18, .inl (G 0, 18, .inl A16)), (b 19, .inl (G 0, 3, .inl A17)), (b 20, .inl (G 0, 180, .inl A18)), (b 21, .inl (G 0, 180, .inl A19)), (b 22, .inl (G 0, 180, .inl A20)), (b 23, .inl (G 0, 180, .inl A21)), (b 24, .inl (G 0, 180, .inl A22))]
def mkM (x0 x1 x2 x3 x4 x5 : Int32) (A1 A2 A3 A4 A5 A6 A7 A8 A9 A10 A11 A12 A13 A14 A15 A16 A17 A18 A19 A20 A21 A22 : Nat → Int32) : KS := fun r => match r with
  | 0 => fun i => (match i with
    | 0 => x0
    | 1 => x1
    | 2 => x2
    | 3 => x3
    | 4 => x4
    | _ => x5)
  | 1 => A1
  | 2 => A2
  | 3 => A3
  | 4 => A4
  | 5 => A5
  | 6 => A6
  | 7 => A7
  | 8 => A8
  | 9 => A9
  | 10 => A10
  | 11 => A11
  | 12 => A12
  | 13 => A13
  | 14 => A14
  | 15 => A15
  | 16 => A16
  | 17 => A17
  | 18 => A18
  | 19 => A19
  | 20 => A20
  | 21 => A21
  | _ => A22
def mcells (G : Nat → ClassId) (b : Nat → Nat) (S : KS) : va_W := lm G b (S 0 0) (S 0 1) (S 0 2) (S 0 3) (S 0 4) (S 0 5) (S 1) (S 2) (S 3) (S 4) (S 5) (S 6) (S 7) (S 8) (S 9) (S 10) (S 11) (S 12) (S 13) (S 14) (S 15) (S 16) (S 17) (S 18) (S 19) (S 20) (S 21) (S 22)
def scr (S : KS) (u : Int32 × Int32 × Int32) : KS := mkM (S 0 0) (S 0 1) (S 0 2) u.1 u.2.1 u.2.2 (S 1) (S 2) (S 3) (S 4) (S 5) (S 6) (S 7) (S 8) (S 9) (S 10) (S 11) (S 12) (S 13) (S 14) (S 15) (S 16) (S 17) (S 18) (S 19) (S 20) (S 21) (S 22)
def kx_i (D : va_G) (cl : List vw_C) (tys : List (ClassId × FieldType)) (ws : va_W) (sz : Nat) (r : Int32) (f : Int32 × Int32 × Int32 → va_W) : Array Value → State → Outcome → State → Prop := va_Qi (fun x (_ : Int32 × Int32 × Int32) => x = r) (fun u t => kw_B D cl tys (f u) (va_A ws sz) t) (va_A ws sz)
def kx_l (D : va_G) (cl : List vw_C) (tys : List (ClassId × FieldType)) (ws : va_W) (sz : Nat) (r : Int64) (f : Int32 × Int32 × Int32 → va_W) : Array Value → State → Outcome → State → Prop := va_Ql (fun x (_ : Int32 × Int32 × Int32) => x = r) (fun u t => kw_B D cl tys (f u) (va_A ws sz) t) (va_A ws sz)
def kx_v (D : va_G) (cl : List vw_C) (tys : List (ClassId × FieldType)) (ws : va_W) (sz : Nat) (f : Int32 × Int32 × Int32 → va_W) : Array Value → State → Outcome → State → Prop := va_Qv (fun (_ : Int32 × Int32 × Int32) => True) (fun u t => kw_B D cl tys (f u) (va_A ws sz) t) (va_A ws sz)
section KXR
variable {p : Program} {l : Launch} {e : Env} {R : Room} {s : State} {m : MethodId} {args : Array Value} {below : List Frame} {meth : Method} {c : Code} {H : Heap} {locs : List Loc} {cells slots : Nat} {Q : State → Prop}
variable {cc : ByteArray} {pc : Nat} {ls : Array Slot} {rest st0 : List Value} {D : va_G} {cl : List vw_C} {A : Nat → Prop} {tys : List (ClassId × FieldType)} {ws wc : va_W} {f : Int32 × Int32 × Int32 → va_W} {H0 : Heap} {mc ms : Nat} {a : Array Value}
theorem kx_app {w : va_W} {H : Heap} (h : va_P D cl w H) : va_P D cl (w ++ []) H := by rw [List.append_nil]; exact h
theorem kx_appD {w : va_W} (h : va_D A w) : va_D A (w ++ []) := by rw [List.append_nil]; exact h
theorem kx_reti0 {r : Int32} (hr : va_Run p l e R s m args below meth c H locs cells slots mc ms (F0 m pc ls st0) rest (kx_i D cl tys wc H.size r f a) (va_A wc H.size)) (hP : va_P D cl wc H) (hD : va_D A wc) (hS : va_S A H0 H locs) (hA : ∀ q, H0.size ≤ q → A q)
    (kk : ∀ (x y z : Int32) (H : Heap) (locs : List Loc), va_P D cl (f (x, y, z)) H → va_D A (f (x, y, z)) → va_S A H0 H locs → W p l e R s m args below meth c H locs (cells + mc) (slots + ms) Q (F0 m (pc + 3) ls (.int r :: rest))) : W p l e R s m args below meth c H locs cells slots Q (F0 m pc ls st0) := by
  have hF := kw_free (wr := []) (kx_appD hD) hS hA
  refine va_calli hr hS (fun q _ h => hF q h) hF (fun r u t H1 locs1 ht hvm hp hB hz hk hS1 => ?_)
  subst hp
  obtain ⟨hP1, hK1, hD1⟩ := hB
  rw [ht] at hP1
  exact kk u.1 u.2.1 u.2.2 H1 locs1 hP1 (hD1.weaken (fun _ q _ h => hF q.1 h)) hS1
theorem kx_retl0 {r : Int64} (hr : va_Run p l e R s m args below meth c H locs cells slots mc ms (F0 m pc ls st0) rest (kx_l D cl tys wc H.size r f a) (va_A wc H.size)) (hP : va_P D cl wc H) (hD : va_D A wc) (hS : va_S A H0 H locs) (hA : ∀ q, H0.size ≤ q → A q)
    (kk : ∀ (x y z : Int32) (H : Heap) (locs : List Loc), va_P D cl (f (x, y, z)) H → va_D A (f (x, y, z)) → va_S A H0 H locs → W p l e R s m args below meth c H locs (cells + mc) (slots + ms) Q (F0 m (pc + 3) ls (.long r :: rest))) : W p l e R s m args below meth c H locs cells slots Q (F0 m pc ls st0) := by
  have hF := kw_free (wr := []) (kx_appD hD) hS hA
  refine va_calll hr hS (fun q _ h => hF q h) hF (fun r u t H1 locs1 ht hvm hp hB hz hk hS1 => ?_)
  subst hp
  obtain ⟨hP1, hK1, hD1⟩ := hB
  rw [ht] at hP1
  exact kk u.1 u.2.1 u.2.2 H1 locs1 hP1 (hD1.weaken (fun _ q _ h => hF q.1 h)) hS1
theorem kx_retv0 (hr : va_Run p l e R s m args below meth c H locs cells slots mc ms (F0 m pc ls st0) rest (kx_v D cl tys wc H.size f a) (va_A wc H.size)) (hP : va_P D cl wc H) (hD : va_D A wc) (hS : va_S A H0 H locs) (hA : ∀ q, H0.size ≤ q → A q)
    (kk : ∀ (x y z : Int32) (H : Heap) (locs : List Loc), va_P D cl (f (x, y, z)) H → va_D A (f (x, y, z)) → va_S A H0 H locs → W p l e R s m args below meth c H locs (cells + mc) (slots + ms) Q (F0 m (pc + 3) ls rest)) : W p l e R s m args below meth c H locs cells slots Q (F0 m pc ls st0) := by
  have hF := kw_free (wr := []) (kx_appD hD) hS hA
  refine va_callv hr hS (fun q _ h => hF q h) hF (fun u t H1 locs1 ht hvm hp hB hz hk hS1 => ?_)
  obtain ⟨hP1, hK1, hD1⟩ := hB
  rw [ht] at hP1
  exact kk u.1 u.2.1 u.2.2 H1 locs1 hP1 (hD1.weaken (fun _ q _ h => hF q.1 h)) hS1
theorem kx_iret {v r : Int32} {w1 : va_W} {u : Int32 × Int32 × Int32} (hx : p.tables.exec = Jvm.exec) (hb : c.code = cc) (hr : meth.sig.returnType = some .int) (hlocks : meth.locks = false) (hK : va_K D cl tys s) (hP : va_P D cl w1 H) (hD : va_D (va_A ws s.heap.size) w1) (hS : va_S (va_A ws s.heap.size) s.heap H locs) (hv : v = r) (hw : w1 = f u) (hdg : decode cc pc = .ok (.ireturn, 1)) :
    W p l e R s m args below meth c H locs cells slots (MQ below (kx_i D cl tys ws s.heap.size r f) args s cells slots (va_A ws s.heap.size)) (F0 m pc ls [.int v]) := by
  subst hw
  exact W.iret hx hb hr (fun t ht hW => ⟨⟨v, u, rfl, hv, by rw [ht]; exact hP, va_K.moved hW.alike hK, hD⟩, hS.F ht⟩) hS.2.2 hdg
theorem kx_zret {v r : Int32} {w1 : va_W} {u : Int32 × Int32 × Int32} (hx : p.tables.exec = Jvm.exec) (hb : c.code = cc) (hr : meth.sig.returnType = some .boolean) (hn : narrow .boolean (.int v) = .int v) (hlocks : meth.locks = false) (hK : va_K D cl tys s) (hP : va_P D cl w1 H) (hD : va_D (va_A ws s.heap.size) w1) (hS : va_S (va_A ws s.heap.size) s.heap H locs) (hv : v = r) (hw : w1 = f u) (hdg : decode cc pc = .ok (.ireturn, 1)) :
    W p l e R s m args below meth c H locs cells slots (MQ below (kx_i D cl tys ws s.heap.size r f) args s cells slots (va_A ws s.heap.size)) (F0 m pc ls [.int v]) := by
  subst hw
  exact W.zret hx hb hr hn (fun t ht hW => ⟨⟨v, u, rfl, hv, by rw [ht]; exact hP, va_K.moved hW.alike hK, hD⟩, hS.F ht⟩) hS.2.2 hdg
theorem kx_lret {v r : Int64} {w1 : va_W} {u : Int32 × Int32 × Int32} (hx : p.tables.exec = Jvm.exec) (hb : c.code = cc) (hr : meth.sig.returnType = some .long) (hlocks : meth.locks = false) (hK : va_K D cl tys s) (hP : va_P D cl w1 H) (hD : va_D (va_A ws s.heap.size) w1) (hS : va_S (va_A ws s.heap.size) s.heap H locs) (hv : v = r) (hw : w1 = f u) (hdg : decode cc pc = .ok (.lreturn, 1)) :
    W p l e R s m args below meth c H locs cells slots (MQ below (kx_l D cl tys ws s.heap.size r f) args s cells slots (va_A ws s.heap.size)) (F0 m pc ls [.long v]) := by
  subst hw
  exact W.lret hx hb hr (fun t ht hW => ⟨⟨v, u, rfl, hv, by rw [ht]; exact hP, va_K.moved hW.alike hK, hD⟩, hS.F ht⟩) hS.2.2 hdg
theorem kx_vret {w1 : va_W} {u : Int32 × Int32 × Int32} (hx : p.tables.exec = Jvm.exec) (hb : c.code = cc) (hr : meth.sig.returnType = none) (hlocks : meth.locks = false) (hK : va_K D cl tys s) (hP : va_P D cl w1 H) (hD : va_D (va_A ws s.heap.size) w1) (hS : va_S (va_A ws s.heap.size) s.heap H locs) (hw : w1 = f u) (hdg : decode cc pc = .ok (.return_, 1)) :
    W p l e R s m args below meth c H locs cells slots (MQ below (kx_v D cl tys ws s.heap.size f) args s cells slots (va_A ws s.heap.size)) (F0 m pc ls []) := by
  subst hw
  exact W.vret hx hb hr (fun t ht hW => ⟨⟨u, rfl, trivial, by rw [ht]; exact hP, va_K.moved hW.alike hK, hD⟩, hS.F ht⟩) hS.2.2 hdg
end KXR
-- numbers that go down, numbers that go up
theorem kd_len (y : Int32) : kM_daysOf y = 366 ∨ kM_daysOf y = 365 := by
  unfold kM_daysOf
  split
  · exact Or.inl rfl
  · exact Or.inr rfl
theorem kd_in (y m : Int32) : kM_daysIn y m = 28 ∨ kM_daysIn y m = 29 ∨ kM_daysIn y m = 30 ∨ kM_daysIn y m = 31 := by
  unfold kM_daysIn
  rcases kd_len y with h | h <;> rw [h] <;> repeat' split
  all_goals first | exact Or.inl rfl | exact Or.inr (Or.inl rfl) | exact Or.inr (Or.inr (Or.inl rfl)) | exact Or.inr (Or.inr (Or.inr rfl)) | decide
theorem kd_fall {x d : Int32} {n : Nat} (hd : 0 < d.toInt ∧ d.toInt ≤ 1000) (h : ¬ x < d) (hx : x.toNatClampNeg ≤ n + 1) : (x - d).toNatClampNeg ≤ n := by
  rw [Int32.lt_iff_toInt_lt] at h
  have h1 := Int32.toInt_lt x
  have h2 := Int32.le_toInt x
  have e : (x - d).toInt = x.toInt - d.toInt := by
    rw [Int32.toInt_sub]
    exact Int.bmod_eq_of_le (by omega) (by omega)
  have e1 : x.toNatClampNeg = x.toInt.toNat := rfl
  have e2 : (x - d).toNatClampNeg = (x - d).toInt.toNat := rfl
  rw [e2, e]
  rw [e1] at hx
  omega
theorem kd_up {k y : Int32} (h : ¬ y ≤ k) : (k + 1).toInt = k.toInt + 1 ∧ k.toInt < y.toInt := by
  rw [Int32.le_iff_toInt_le] at h
  have h1 := Int32.toInt_lt y
  have h2 := Int32.le_toInt k
  refine ⟨?_, by omega⟩
  rw [Int32.toInt_add]
  exact Int.bmod_eq_of_le (by have : (1 : Int32).toInt = 1 := by decide
                              omega) (by have : (1 : Int32).toInt = 1 := by decide
                                         omega)
