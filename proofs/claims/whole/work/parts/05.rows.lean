/-! rows of my own over the kit's: worlds as lists, calls with a world in front and a rest behind, ends -/
def kw_B (D : va_G) (cl : List vw_C) (tys : List (ClassId × FieldType)) (ws : va_W) (A : Nat → Prop) (t : State) : Prop := va_P D cl ws t.heap ∧ va_K D cl tys t ∧ va_D A ws
def kw_Pc (D : va_G) (cl : List vw_C) (tys : List (ClassId × FieldType)) (av : List Value) (ws : va_W) (sz : Nat) : Array Value → State → Prop := va_Pc av (fun U => U.heap.size = sz ∧ kw_B D cl tys ws (fun _ => True) U)
def kw_i (D : va_G) (cl : List vw_C) (tys : List (ClassId × FieldType)) (ws : va_W) (sz : Nat) (r : Int32) (w' : va_W) : Array Value → State → Outcome → State → Prop := va_Qi (fun x (u : va_W) => x = r ∧ u = w') (fun u t => kw_B D cl tys u (va_A ws sz) t) (va_A ws sz)
def kw_l (D : va_G) (cl : List vw_C) (tys : List (ClassId × FieldType)) (ws : va_W) (sz : Nat) (r : Int64) (w' : va_W) : Array Value → State → Outcome → State → Prop := va_Ql (fun x (u : va_W) => x = r ∧ u = w') (fun u t => kw_B D cl tys u (va_A ws sz) t) (va_A ws sz)
def kw_v (D : va_G) (cl : List vw_C) (tys : List (ClassId × FieldType)) (ws : va_W) (sz : Nat) (w' : va_W) : Array Value → State → Outcome → State → Prop := va_Qv (fun (u : va_W) => u = w') (fun u t => kw_B D cl tys u (va_A ws sz) t) (va_A ws sz)
def kw_r (D : va_G) (cl : List vw_C) (tys : List (ClassId × FieldType)) (ws : va_W) (sz : Nat) (ra : Nat) (w' : va_W) : Array Value → State → Outcome → State → Prop := va_Qr (fun (u : va_W) => u = w') (fun u b t => b = ra ∧ kw_B D cl tys u (va_A ws sz) t) (va_A ws sz)
/-- a method that touches no heap -/
def kp_Pc (av : List Value) : Array Value → State → Prop := fun v _ => v = av.toArray
theorem kp_pre {s : State} {H : Heap} {As : List Value} : PreS s H (kp_Pc As) As := ⟨fun _ _ _ _ q => q, fun _ _ _ => rfl⟩
theorem kw_blind {D : va_G} {cl : List vw_C} {tys : List (ClassId × FieldType)} {av : List Value} {ws : va_W} {sz : Nat} : FrameBlind (kw_Pc D cl tys av ws sz) := fun a U g mk q => by
  obtain ⟨q0, q1, qP, qK, qD⟩ := q
  exact ⟨q0, q1, qP, va_K.moved (u := U) (U := U.calling g mk a) (Vm.Alike.refl U.vm) qK, qD⟩
theorem kw_at {D : va_G} {cl : List vw_C} {tys : List (ClassId × FieldType)} {av : List Value} {ws : va_W} {A : Nat → Prop} {s U : State} {H : Heap} (hK : va_K D cl tys s) (hP : va_P D cl ws H) (hD : va_D A ws) (hU : U.heap = H) (hW : s.WarmedH U.vm) : kw_Pc D cl tys av ws H.size av.toArray U :=
  ⟨rfl, by rw [hU], by rw [hU]; exact hP, va_K.moved hW.alike hK, hD.weaken (fun _ _ _ _ => trivial)⟩
theorem kw_preS {D : va_G} {cl : List vw_C} {tys : List (ClassId × FieldType)} {As : List Value} {ws : va_W} {A : Nat → Prop} {s : State} {H : Heap} (hK : va_K D cl tys s) (hP : va_P D cl ws H) (hD : va_D A ws) : PreS s H (kw_Pc D cl tys As ws H.size) As :=
  ⟨kw_blind, fun _ hU hW => kw_at hK hP hD hU hW⟩
theorem kw_preV {D : va_G} {cl : List vw_C} {tys : List (ClassId × FieldType)} {As : List Value} {ws : va_W} {A : Nat → Prop} {s : State} {H : Heap} {b q0 ci : Nat} {q : vw_C} {fs : List Value} (hK : va_K D cl tys s) (hP : va_P D cl ws H) (hD : va_D A ws) (hc : cl[ci]? = some q) (he : ws[q0]? = some (b, .inr (ci, fs))) : PreV s H q.1 b (kw_Pc D cl tys (.ref b :: As) ws H.size) As :=
  ⟨kw_blind, va_recv hK hP hc he, fun _ hU hW => kw_at hK hP hD hU hW⟩
theorem kw_preVx {D : va_G} {cl : List vw_C} {tys : List (ClassId × FieldType)} {As : List Value} {ws : va_W} {s : State} {H : Heap} {b q0 ci : Nat} {q : vw_C} {fs : List Value} (hK : va_K D cl tys s) (hP : va_P D cl ws H) (hc : cl[ci]? = some q) (he : ws[q0]? = some (b, .inr (ci, fs))) : PreV s H q.1 b (kp_Pc (.ref b :: As)) As :=
  ⟨fun _ _ _ _ q => q, va_recv hK hP hc he, fun _ _ _ => rfl⟩
-- worlds by membership
theorem kw_Pm {D : va_G} {cl : List vw_C} {ws : va_W} {H : Heap} : va_P D cl ws H ↔ ∀ q ∈ ws, va_at D cl q H :=
  ⟨fun h q hq => by obtain ⟨k, hk⟩ := List.getElem?_of_mem hq; exact h k q hk, fun h _ q hk => h q (List.mem_of_getElem? hk)⟩
theorem kw_Pl {D : va_G} {cl : List vw_C} {w1 w2 : va_W} {H : Heap} (h : va_P D cl (w1 ++ w2) H) : va_P D cl w1 H := kw_Pm.mpr fun q hq => kw_Pm.mp h q (List.mem_append_left _ hq)
theorem kw_Pr {D : va_G} {cl : List vw_C} {w1 w2 : va_W} {H : Heap} (h : va_P D cl (w1 ++ w2) H) : va_P D cl w2 H := kw_Pm.mpr fun q hq => kw_Pm.mp h q (List.mem_append_right _ hq)
theorem kw_Pp {D : va_G} {cl : List vw_C} {w1 w2 : va_W} {H : Heap} (h : va_P D cl w1 H) (hp : w2.Perm w1) : va_P D cl w2 H := kw_Pm.mpr fun q hq => kw_Pm.mp h q (hp.mem_iff.mp hq)
theorem kw_Dm {A : Nat → Prop} {ws : va_W} : va_D A ws ↔ (ws.map (fun q => q.1)).Nodup ∧ ∀ q ∈ ws, A q.1 := by
  constructor
  · intro h
    refine ⟨List.pairwise_iff_getElem.mpr fun i j hi hj hij he => ?_, fun q hq => by obtain ⟨k, hk⟩ := List.getElem?_of_mem hq; exact h.2 k q hk⟩
    rw [List.length_map] at hi hj
    rw [List.getElem_map, List.getElem_map] at he
    exact Nat.ne_of_lt hij (h.1 i j _ _ (List.getElem?_eq_getElem hi) (List.getElem?_eq_getElem hj) he)
  · intro h
    refine ⟨fun i j x y hx hy e => ?_, fun k q hk => h.2 q (List.mem_of_getElem? hk)⟩
    have hn := List.pairwise_iff_getElem.mp h.1
    obtain ⟨hi, ei⟩ := List.getElem?_eq_some_iff.mp hx
    obtain ⟨hj, ej⟩ := List.getElem?_eq_some_iff.mp hy
    rcases Nat.lt_trichotomy i j with q | q | q
    · refine absurd ?_ (hn i j (by rw [List.length_map]; exact hi) (by rw [List.length_map]; exact hj) q)
      rw [List.getElem_map, List.getElem_map, ei, ej]; exact e
    · exact q
    · refine absurd ?_ (hn j i (by rw [List.length_map]; exact hj) (by rw [List.length_map]; exact hi) q)
      rw [List.getElem_map, List.getElem_map, ei, ej]; exact e.symm
theorem kw_Dp {A : Nat → Prop} {w1 w2 : va_W} (h : va_D A w1) (hp : w2.Perm w1) : va_D A w2 := by
  rw [kw_Dm] at h ⊢
  exact ⟨(hp.map _).nodup_iff.mpr h.1, fun q hq => h.2 q (hp.mem_iff.mp hq)⟩
theorem kw_Dl {A : Nat → Prop} {w1 w2 : va_W} (h : va_D A (w1 ++ w2)) : va_D A w1 := by
  rw [kw_Dm] at h ⊢
  rw [List.map_append] at h
  exact ⟨(List.nodup_append.mp h.1).1, fun q hq => h.2 q (List.mem_append_left _ hq)⟩
theorem kw_Am {ws : va_W} {sz q : Nat} : va_A ws sz q ↔ (∃ e, (q, e) ∈ ws) ∨ sz ≤ q := by
  unfold va_A
  constructor
  · rintro (⟨k, e, h⟩ | h)
    · exact Or.inl ⟨e, List.mem_of_getElem? h⟩
    · exact Or.inr h
  · rintro (⟨e, h⟩ | h)
    · obtain ⟨k, hk⟩ := List.getElem?_of_mem h
      exact Or.inl ⟨k, e, hk⟩
    · exact Or.inr h
theorem kw_free {A : Nat → Prop} {wc wr : va_W} {H0 H : Heap} {locs : List Loc} (hD : va_D A (wc ++ wr)) (hS : va_S A H0 H locs) (hA : ∀ q, H0.size ≤ q → A q) : ∀ q, va_A wc H.size q → A q := by
  intro q h
  rcases kw_Am.mp h with ⟨e, h⟩ | h
  · exact (kw_Dm.mp hD).2 (q, e) (List.mem_append_left _ h)
  · exact hA q (Nat.le_trans hS.1 h)
theorem kw_join {A : Nat → Prop} {D : va_G} {cl : List vw_C} {wc wr w1 : va_W} {H H1 : Heap} (hP : va_P D cl (wc ++ wr) H) (hD : va_D A (wc ++ wr)) (hk : ∀ q : Nat, q < H.size → ¬ va_A wc H.size q → H1[q]? = H[q]?) (hF : ∀ q, va_A wc H.size q → A q) (hP1 : va_P D cl w1 H1) (hD1 : va_D (va_A wc H.size) w1) : va_P D cl (w1 ++ wr) H1 ∧ va_D A (w1 ++ wr) := by
  have hd := kw_Dm.mp hD
  rw [List.map_append] at hd
  obtain ⟨n1, n2, n3⟩ := List.nodup_append.mp hd.1
  have hd1 := kw_Dm.mp hD1
  have apart : ∀ q ∈ wr, q.1 < H.size ∧ ¬ va_A wc H.size q.1 := by
    intro q hq
    have hl := (kw_Pm.mp hP q (List.mem_append_right _ hq)).lt
    refine ⟨hl, fun h => ?_⟩
    rcases kw_Am.mp h with ⟨e, h⟩ | h
    · exact n3 q.1 (List.mem_map.mpr ⟨(q.1, e), h, rfl⟩) q.1 (List.mem_map.mpr ⟨q, hq, rfl⟩) rfl
    · omega
  constructor
  · rw [kw_Pm]
    intro q hq
    rcases List.mem_append.mp hq with h | h
    · exact kw_Pm.mp hP1 q h
    · exact (kw_Pm.mp hP q (List.mem_append_right _ h)).kept (hk q.1 (apart q h).1 (apart q h).2)
  · rw [kw_Dm, List.map_append]
    refine ⟨List.nodup_append.mpr ⟨hd1.1, n2, fun x hx y hy e => ?_⟩, fun q hq => ?_⟩
    · obtain ⟨u, hu, rfl⟩ := List.mem_map.mp hx
      obtain ⟨v, hv, rfl⟩ := List.mem_map.mp hy
      exact (apart v hv).2 (e ▸ hd1.2 u hu)
    · rcases List.mem_append.mp hq with h | h
      · exact hF _ (hd1.2 q h)
      · exact hd.2 q (List.mem_append_right _ h)
section KWR
variable {p : Program} {l : Launch} {e : Env} {R : Room} {s : State} {m : MethodId} {args : Array Value} {below : List Frame} {meth : Method} {c : Code} {H : Heap} {locs : List Loc} {cells slots : Nat} {Q : State → Prop}
variable {cc : ByteArray} {pc : Nat} {ls : Array Slot} {rest st0 : List Value} {D : va_G} {cl : List vw_C} {A : Nat → Prop} {tys : List (ClassId × FieldType)} {ws wc wr w' : va_W} {H0 : Heap} {mc ms : Nat} {a : Array Value}
theorem kw_reti {r : Int32} (hr : va_Run p l e R s m args below meth c H locs cells slots mc ms (F0 m pc ls st0) rest (kw_i D cl tys wc H.size r w' a) (va_A wc H.size)) (hP : va_P D cl (wc ++ wr) H) (hD : va_D A (wc ++ wr)) (hS : va_S A H0 H locs) (hA : ∀ q, H0.size ≤ q → A q)
    (kk : ∀ (H : Heap) (locs : List Loc), va_P D cl (w' ++ wr) H → va_D A (w' ++ wr) → va_S A H0 H locs → W p l e R s m args below meth c H locs (cells + mc) (slots + ms) Q (F0 m (pc + 3) ls (.int r :: rest))) : W p l e R s m args below meth c H locs cells slots Q (F0 m pc ls st0) := by
  have hF := kw_free hD hS hA
  refine va_calli hr hS (fun q _ h => hF q h) hF (fun r u t H1 locs1 ht hvm hp hB hz hk hS1 => ?_)
  obtain ⟨rfl, rfl⟩ := hp
  obtain ⟨hP1, hK1, hD1⟩ := hB
  rw [ht] at hP1
  obtain ⟨j1, j2⟩ := kw_join hP hD hk hF hP1 hD1
  exact kk H1 locs1 j1 j2 hS1
theorem kw_retl {r : Int64} (hr : va_Run p l e R s m args below meth c H locs cells slots mc ms (F0 m pc ls st0) rest (kw_l D cl tys wc H.size r w' a) (va_A wc H.size)) (hP : va_P D cl (wc ++ wr) H) (hD : va_D A (wc ++ wr)) (hS : va_S A H0 H locs) (hA : ∀ q, H0.size ≤ q → A q)
    (kk : ∀ (H : Heap) (locs : List Loc), va_P D cl (w' ++ wr) H → va_D A (w' ++ wr) → va_S A H0 H locs → W p l e R s m args below meth c H locs (cells + mc) (slots + ms) Q (F0 m (pc + 3) ls (.long r :: rest))) : W p l e R s m args below meth c H locs cells slots Q (F0 m pc ls st0) := by
  have hF := kw_free hD hS hA
  refine va_calll hr hS (fun q _ h => hF q h) hF (fun r u t H1 locs1 ht hvm hp hB hz hk hS1 => ?_)
  obtain ⟨rfl, rfl⟩ := hp
  obtain ⟨hP1, hK1, hD1⟩ := hB
  rw [ht] at hP1
  obtain ⟨j1, j2⟩ := kw_join hP hD hk hF hP1 hD1
  exact kk H1 locs1 j1 j2 hS1
theorem kw_retv (hr : va_Run p l e R s m args below meth c H locs cells slots mc ms (F0 m pc ls st0) rest (kw_v D cl tys wc H.size w' a) (va_A wc H.size)) (hP : va_P D cl (wc ++ wr) H) (hD : va_D A (wc ++ wr)) (hS : va_S A H0 H locs) (hA : ∀ q, H0.size ≤ q → A q)
    (kk : ∀ (H : Heap) (locs : List Loc), va_P D cl (w' ++ wr) H → va_D A (w' ++ wr) → va_S A H0 H locs → W p l e R s m args below meth c H locs (cells + mc) (slots + ms) Q (F0 m (pc + 3) ls rest)) : W p l e R s m args below meth c H locs cells slots Q (F0 m pc ls st0) := by
  have hF := kw_free hD hS hA
  refine va_callv hr hS (fun q _ h => hF q h) hF (fun u t H1 locs1 ht hvm hp hB hz hk hS1 => ?_)
  subst hp
  obtain ⟨hP1, hK1, hD1⟩ := hB
  rw [ht] at hP1
  obtain ⟨j1, j2⟩ := kw_join hP hD hk hF hP1 hD1
  exact kk H1 locs1 j1 j2 hS1
theorem kw_retr {ra : Nat} (hr : va_Run p l e R s m args below meth c H locs cells slots mc ms (F0 m pc ls st0) rest (kw_r D cl tys wc H.size ra w' a) (va_A wc H.size)) (hP : va_P D cl (wc ++ wr) H) (hD : va_D A (wc ++ wr)) (hS : va_S A H0 H locs) (hA : ∀ q, H0.size ≤ q → A q)
    (kk : ∀ (H : Heap) (locs : List Loc), va_P D cl (w' ++ wr) H → va_D A (w' ++ wr) → va_S A H0 H locs → W p l e R s m args below meth c H locs (cells + mc) (slots + ms) Q (F0 m (pc + 3) ls (.ref ra :: rest))) : W p l e R s m args below meth c H locs cells slots Q (F0 m pc ls st0) := by
  have hF := kw_free hD hS hA
  refine va_callr hr hS (fun q _ h => hF q h) hF (fun u ra1 t H1 locs1 ht hvm hp hB hz hk hS1 => ?_)
  subst hp
  obtain ⟨rfl, hP1, hK1, hD1⟩ := hB
  rw [ht] at hP1
  obtain ⟨j1, j2⟩ := kw_join hP hD hk hF hP1 hD1
  exact kk H1 locs1 j1 j2 hS1
-- the same where the callee's world is the caller's
theorem kw_reti0 {r : Int32} (hr : va_Run p l e R s m args below meth c H locs cells slots mc ms (F0 m pc ls st0) rest (kw_i D cl tys wc H.size r w' a) (va_A wc H.size)) (hP : va_P D cl wc H) (hD : va_D A wc) (hS : va_S A H0 H locs) (hA : ∀ q, H0.size ≤ q → A q)
    (kk : ∀ (H : Heap) (locs : List Loc), va_P D cl w' H → va_D A w' → va_S A H0 H locs → W p l e R s m args below meth c H locs (cells + mc) (slots + ms) Q (F0 m (pc + 3) ls (.int r :: rest))) : W p l e R s m args below meth c H locs cells slots Q (F0 m pc ls st0) :=
  kw_reti (wr := []) hr (by rw [List.append_nil]; exact hP) (by rw [List.append_nil]; exact hD) hS hA (fun H locs h1 h2 h3 => kk H locs (by rw [List.append_nil] at h1; exact h1) (by rw [List.append_nil] at h2; exact h2) h3)
theorem kw_retl0 {r : Int64} (hr : va_Run p l e R s m args below meth c H locs cells slots mc ms (F0 m pc ls st0) rest (kw_l D cl tys wc H.size r w' a) (va_A wc H.size)) (hP : va_P D cl wc H) (hD : va_D A wc) (hS : va_S A H0 H locs) (hA : ∀ q, H0.size ≤ q → A q)
    (kk : ∀ (H : Heap) (locs : List Loc), va_P D cl w' H → va_D A w' → va_S A H0 H locs → W p l e R s m args below meth c H locs (cells + mc) (slots + ms) Q (F0 m (pc + 3) ls (.long r :: rest))) : W p l e R s m args below meth c H locs cells slots Q (F0 m pc ls st0) :=
  kw_retl (wr := []) hr (by rw [List.append_nil]; exact hP) (by rw [List.append_nil]; exact hD) hS hA (fun H locs h1 h2 h3 => kk H locs (by rw [List.append_nil] at h1; exact h1) (by rw [List.append_nil] at h2; exact h2) h3)
theorem kw_retv0 (hr : va_Run p l e R s m args below meth c H locs cells slots mc ms (F0 m pc ls st0) rest (kw_v D cl tys wc H.size w' a) (va_A wc H.size)) (hP : va_P D cl wc H) (hD : va_D A wc) (hS : va_S A H0 H locs) (hA : ∀ q, H0.size ≤ q → A q)
    (kk : ∀ (H : Heap) (locs : List Loc), va_P D cl w' H → va_D A w' → va_S A H0 H locs → W p l e R s m args below meth c H locs (cells + mc) (slots + ms) Q (F0 m (pc + 3) ls rest)) : W p l e R s m args below meth c H locs cells slots Q (F0 m pc ls st0) :=
  kw_retv (wr := []) hr (by rw [List.append_nil]; exact hP) (by rw [List.append_nil]; exact hD) hS hA (fun H locs h1 h2 h3 => kk H locs (by rw [List.append_nil] at h1; exact h1) (by rw [List.append_nil] at h2; exact h2) h3)
-- a callee that touches no heap
theorem kp_reti {r : Int32} (hr : va_Run p l e R s m args below meth c H locs cells slots 0 0 (F0 m pc ls st0) rest (vp_Si (fun x => x = r) a) (fun _ => False))
    (kk : W p l e R s m args below meth c H locs cells slots Q (F0 m (pc + 3) ls (.int r :: rest))) : W p l e R s m args below meth c H locs cells slots Q (F0 m pc ls st0) := by
  intro T hT X
  obtain ⟨v, st₀, t, T', L, h0, X', hL, e1, -, ⟨r, hv, rfl, hh⟩, st⟩ := hr T hT X
  cases hv
  obtain ⟨t2, a1, b1⟩ := kk T' (by rw [e1, hh, h0]) (Stand.forget X' (fun q h => (hL q h).elim))
  exact ⟨t2, st t2 a1, b1⟩
theorem kp_retl {r : Int64} (hr : va_Run p l e R s m args below meth c H locs cells slots 0 0 (F0 m pc ls st0) rest (vp_Sl (fun x => x = r) a) (fun _ => False))
    (kk : W p l e R s m args below meth c H locs cells slots Q (F0 m (pc + 3) ls (.long r :: rest))) : W p l e R s m args below meth c H locs cells slots Q (F0 m pc ls st0) := by
  intro T hT X
  obtain ⟨v, st₀, t, T', L, h0, X', hL, e1, -, ⟨r, hv, rfl, hh⟩, st⟩ := hr T hT X
  cases hv
  obtain ⟨t2, a1, b1⟩ := kk T' (by rw [e1, hh, h0]) (Stand.forget X' (fun q h => (hL q h).elim))
  exact ⟨t2, st t2 a1, b1⟩
-- ends
theorem kw_iret {v r : Int32} {w1 : va_W} (hx : p.tables.exec = Jvm.exec) (hb : c.code = cc) (hr : meth.sig.returnType = some .int) (hlocks : meth.locks = false) (hK : va_K D cl tys s) (hP : va_P D cl w1 H) (hD : va_D (va_A ws s.heap.size) w1) (hS : va_S (va_A ws s.heap.size) s.heap H locs) (hv : v = r ∧ w1 = w') (hdg : decode cc pc = .ok (.ireturn, 1)) :
    W p l e R s m args below meth c H locs cells slots (MQ below (kw_i D cl tys ws s.heap.size r w') args s cells slots (va_A ws s.heap.size)) (F0 m pc ls [.int v]) :=
  W.iret hx hb hr (fun t ht hW => ⟨⟨v, w1, rfl, hv, by rw [ht]; exact hP, va_K.moved hW.alike hK, hD⟩, hS.F ht⟩) hS.2.2 hdg
theorem kw_zret {v r : Int32} {w1 : va_W} (hx : p.tables.exec = Jvm.exec) (hb : c.code = cc) (hr : meth.sig.returnType = some .boolean) (hn : narrow .boolean (.int v) = .int v) (hlocks : meth.locks = false) (hK : va_K D cl tys s) (hP : va_P D cl w1 H) (hD : va_D (va_A ws s.heap.size) w1) (hS : va_S (va_A ws s.heap.size) s.heap H locs) (hv : v = r ∧ w1 = w') (hdg : decode cc pc = .ok (.ireturn, 1)) :
    W p l e R s m args below meth c H locs cells slots (MQ below (kw_i D cl tys ws s.heap.size r w') args s cells slots (va_A ws s.heap.size)) (F0 m pc ls [.int v]) :=
  W.zret hx hb hr hn (fun t ht hW => ⟨⟨v, w1, rfl, hv, by rw [ht]; exact hP, va_K.moved hW.alike hK, hD⟩, hS.F ht⟩) hS.2.2 hdg
theorem kw_vret {w1 : va_W} (hx : p.tables.exec = Jvm.exec) (hb : c.code = cc) (hr : meth.sig.returnType = none) (hlocks : meth.locks = false) (hK : va_K D cl tys s) (hP : va_P D cl w1 H) (hD : va_D (va_A ws s.heap.size) w1) (hS : va_S (va_A ws s.heap.size) s.heap H locs) (hv : w1 = w') (hdg : decode cc pc = .ok (.return_, 1)) :
    W p l e R s m args below meth c H locs cells slots (MQ below (kw_v D cl tys ws s.heap.size w') args s cells slots (va_A ws s.heap.size)) (F0 m pc ls []) :=
  W.vret hx hb hr (fun t ht hW => ⟨⟨w1, rfl, hv, by rw [ht]; exact hP, va_K.moved hW.alike hK, hD⟩, hS.F ht⟩) hS.2.2 hdg
theorem kw_lret {v r : Int64} {w1 : va_W} (hx : p.tables.exec = Jvm.exec) (hb : c.code = cc) (hr : meth.sig.returnType = some .long) (hlocks : meth.locks = false) (hK : va_K D cl tys s) (hP : va_P D cl w1 H) (hD : va_D (va_A ws s.heap.size) w1) (hS : va_S (va_A ws s.heap.size) s.heap H locs) (hv : v = r ∧ w1 = w') (hdg : decode cc pc = .ok (.lreturn, 1)) :
    W p l e R s m args below meth c H locs cells slots (MQ below (kw_l D cl tys ws s.heap.size r w') args s cells slots (va_A ws s.heap.size)) (F0 m pc ls [.long v]) :=
  W.lret hx hb hr (fun t ht hW => ⟨⟨v, w1, rfl, hv, by rw [ht]; exact hP, va_K.moved hW.alike hK, hD⟩, hS.F ht⟩) hS.2.2 hdg
theorem kp_iret {v r : Int32} (hx : p.tables.exec = Jvm.exec) (hb : c.code = cc) (hr : meth.sig.returnType = some .int) (hlocks : meth.locks = false) (hv : v = r) (hdg : decode cc pc = .ok (.ireturn, 1)) :
    W p l e R s m args below meth c s.heap [] cells slots (MQ below (vp_Si (fun x => x = r)) args s cells slots (fun _ => False)) (F0 m pc ls [.int v]) :=
  W.iret hx hb hr (fun t ht hW => ⟨v, rfl, hv, ht⟩) (fun q h => by cases h) hdg
theorem kp_zret {v r : Int32} (hx : p.tables.exec = Jvm.exec) (hb : c.code = cc) (hr : meth.sig.returnType = some .boolean) (hn : narrow .boolean (.int v) = .int v) (hlocks : meth.locks = false) (hv : v = r) (hdg : decode cc pc = .ok (.ireturn, 1)) :
    W p l e R s m args below meth c s.heap [] cells slots (MQ below (vp_Si (fun x => x = r)) args s cells slots (fun _ => False)) (F0 m pc ls [.int v]) :=
  W.zret hx hb hr hn (fun t ht hW => ⟨v, rfl, hv, ht⟩) (fun q h => by cases h) hdg
theorem kp_lret {v r : Int64} (hx : p.tables.exec = Jvm.exec) (hb : c.code = cc) (hr : meth.sig.returnType = some .long) (hlocks : meth.locks = false) (hv : v = r) (hdg : decode cc pc = .ok (.lreturn, 1)) :
    W p l e R s m args below meth c s.heap [] cells slots (MQ below (vp_Sl (fun x => x = r)) args s cells slots (fun _ => False)) (F0 m pc ls [.long v]) :=
  W.lret hx hb hr (fun t ht hW => ⟨v, rfl, hv, ht⟩) (fun q h => by cases h) hdg
-- arrays at a place that is known as a Nat
theorem kw_iald (hx : p.tables.exec = Jvm.exec) (hb : c.code = cc) (hK : va_K D cl tys s) (hP : va_P D cl ws H) (q0 t0 : Nat) {x : Nat} {cA : ClassId} {n : Nat} {f : Nat → Int32} (ha : ws[q0]? = some (x, .inl (cA, n, .inl f))) (ht : tys[t0]? = some (cA, .int)) {i : Int32} (hin : vp_in i n) {j : Nat} (hj : i.toNatClampNeg = j) {v : Int32} (hv : f j = v) (hdg : decode cc pc = .ok (.iaload, 1))
    (kk : W p l e R s m args below meth c H locs cells slots Q (F0 m (pc + 1) ls (.int v :: rest))) : W p l e R s m args below meth c H locs cells slots Q (F0 m pc ls (.int i :: .ref x :: rest)) := by
  subst hj; subst hv
  exact va_iald hx hb hK hP q0 t0 ha ht hin hdg kk
theorem kw_iast (hx : p.tables.exec = Jvm.exec) (hb : c.code = cc) (hK : va_K D cl tys s) (hP : va_P D cl ws H) (hD : va_D A ws) (hS : va_S A H0 H locs) (q0 t0 : Nat) {x : Nat} {cA : ClassId} {n : Nat} {f : Nat → Int32} (ha : ws[q0]? = some (x, .inl (cA, n, .inl f))) (ht : tys[t0]? = some (cA, .int)) {i : Int32} {v : Int32} (hin : vp_in i n) {j : Nat} (hj : i.toNatClampNeg = j) (hdg : decode cc pc = .ok (.iastore, 1))
    (hw : ws.set q0 (x, .inl (cA, n, .inl (upd f j v))) = w')
    (kk : ∀ (H : Heap) (locs : List Loc), va_P D cl w' H → va_D A w' → va_S A H0 H locs → W p l e R s m args below meth c H locs cells slots Q (F0 m (pc + 1) ls rest)) : W p l e R s m args below meth c H locs cells slots Q (F0 m pc ls (.int v :: .int i :: .ref x :: rest)) := by
  subst hj; subst hw
  exact va_iast hx hb hK hP hD hS q0 t0 ha ht hin hdg kk
theorem kw_zald (hx : p.tables.exec = Jvm.exec) (hb : c.code = cc) (hK : va_K D cl tys s) (hP : va_P D cl ws H) (q0 t0 : Nat) {x : Nat} {cA : ClassId} {n : Nat} {f : Nat → Int32} (ha : ws[q0]? = some (x, .inl (cA, n, .inl f))) (ht : tys[t0]? = some (cA, .boolean)) {i : Int32} (hin : vp_in i n) {j : Nat} (hj : i.toNatClampNeg = j) {v : Int32} (hv : f j = v) (hdg : decode cc pc = .ok (.baload, 1))
    (kk : W p l e R s m args below meth c H locs cells slots Q (F0 m (pc + 1) ls (.int v :: rest))) : W p l e R s m args below meth c H locs cells slots Q (F0 m pc ls (.int i :: .ref x :: rest)) := by
  subst hj; subst hv
  exact va_zald hx hb hK hP q0 t0 ha ht hin hdg kk
theorem kw_zast (hx : p.tables.exec = Jvm.exec) (hb : c.code = cc) (hK : va_K D cl tys s) (hP : va_P D cl ws H) (hD : va_D A ws) (hS : va_S A H0 H locs) (q0 t0 : Nat) {x : Nat} {cA : ClassId} {n : Nat} {f : Nat → Int32} (ha : ws[q0]? = some (x, .inl (cA, n, .inl f))) (ht : tys[t0]? = some (cA, .boolean)) {i : Int32} {v v' : Int32} (hin : vp_in i n) {j : Nat} (hj : i.toNatClampNeg = j) (hn : vp_nar .boolean v = v') (hdg : decode cc pc = .ok (.bastore, 1))
    (hw : ws.set q0 (x, .inl (cA, n, .inl (upd f j v'))) = w')
    (kk : ∀ (H : Heap) (locs : List Loc), va_P D cl w' H → va_D A w' → va_S A H0 H locs → W p l e R s m args below meth c H locs cells slots Q (F0 m (pc + 1) ls rest)) : W p l e R s m args below meth c H locs cells slots Q (F0 m pc ls (.int v :: .int i :: .ref x :: rest)) := by
  subst hj; subst hn; subst hw
  exact va_zast hx hb hK hP hD hS q0 t0 ha ht hin hdg kk
end KWR
-- a state of a module: row 0 the numbers in its objects' fields, the other rows its arrays
abbrev KS : Type := Nat → Nat → Int32
def stt (S : KS) (a i : Nat) (v : Int32) : KS := va_up S a (upd (S a) i v)
section KWS
variable {p : Program} {l : Launch} {e : Env} {R : Room} {s : State} {m : MethodId} {args : Array Value} {below : List Frame} {meth : Method} {c : Code} {H : Heap} {locs : List Loc} {cells slots : Nat} {Q : State → Prop}
variable {cc : ByteArray} {pc : Nat} {ls : Array Slot} {rest st0 : List Value} {D : va_G} {cl : List vw_C} {A : Nat → Prop} {a : Nat} {tys : List (ClassId × FieldType)} {ws wc wr w' : va_W} {H0 : Heap} {mc ms : Nat}
theorem kw_entry {n : Nat} {av : Array Value} (vs : List Value) (hv : av = vs.toArray) (h : (lg_sl vs).length ≤ n) (k : ∀ ls : Array Slot, lv_has ls n (lv_args 0 vs) → W p l e R s m args below meth c H locs cells slots Q (F0 m 0 ls [])) : W p l e R s m args below meth c H locs cells slots Q (entryFrame m av n) := by
  subst hv
  rw [lg_entry_eq]
  exact k _ (lv_entry vs h)
theorem kw_put (hexec : p.tables.exec = Jvm.exec) (hb : c.code = cc) {own ref C : String} {T : u_T} {N ci index : Nat} {Ts : List Cond} (hts : ∀ w ∈ Ts, w.before args s = true) (hin : ∀ w ∈ u_ws C T N, w ∈ Ts) (ty0 : Nat → FieldType) (hty : ∀ k, k < N → parseFieldDescriptor (T k).2.2.1 = some (ty0 k)) (hnm : ∀ a, a < N → ∀ b, b < N → a ≠ b → (T a).2.1 ≠ (T b).2.1) (hown : s.vm.findClass own = some m.cls) (hK : va_K D cl tys s) (hP : va_P D cl ws H) (hD : va_D A ws) (hS0 : va_S A H0 H locs) (q0 : Nat) {fs : List Value} (he : ws[q0]? = some (a, .inr (ci, fs))) (hc : cl[ci]? = some (C, T, N)) (k : Nat) (hk : k < N) (hlink : (Cond.fieldLink own index ref (T k).2.1 (T k).2.2.1).before args s = true) (hsame : ∀ x, s.fieldFound? (T k).1 (T k).2.1 (T k).2.2.1 = some x → s.fieldFound? ref (T k).2.1 (T k).2.2.1 = some x) (hfin : (T k).2.2.2 = false) {ty : FieldType} {v : Value} (hd : parseFieldDescriptor (T k).2.2.1 = some ty) (hn : narrow ty v = v) (hfit : fits ty v = true) (hl : k < fs.length)
    (hdg : decode cc pc = .ok (.putfield index, 3)) (hw : ws.set q0 (a, .inr (ci, fs.set k v)) = w') (kk : ∀ (H : Heap) (locs : List Loc), va_P D cl w' H → va_D A w' → va_S A H0 H locs → W p l e R s m args below meth c H locs cells slots Q (F0 m (pc + 3) ls rest)) : W p l e R s m args below meth c H locs cells slots Q (F0 m pc ls (v :: .ref a :: rest)) := by
  subst hw
  exact va_put hexec hb hts hin ty0 hty hnm hown hK hP hD hS0 q0 he hc k hk hlink hsame hfin hd hn hfit hl hdg kk
end KWS
/-- a call's words, out of the one list -/
theorem kw_cB {R : Room} {s : State} {args : Array Value} {own : String} {index maxL n mc ms : Nat} {y : MethodName} {bytes : ByteArray} {ret : Option FieldType} {rm : Room} (hg : ∀ w ∈ GW, w.before args s = true) (hc : Cond.code y bytes maxL ret ∈ GW) (hi : Cond.initialized y.cls ∈ GW) (hl : Cond.methodLink own index y ∈ GW) (hy : y.cls ≠ "java/lang/invoke/MethodHandle" ∧ y.cls ≠ "java/lang/invoke/VarHandle") (hd : (parseMethodDescriptor y.desc).map (fun d => d.parameters.length) = some n) (hR : rm.frames + 1 ≤ R.frames ∧ 8 + (maxL + 11) + rm.locals ≤ R.locals) (hrc : rm.cells = mc) (hrs : rm.slots = ms) :
    CallB R s args own index y bytes maxL ret (Cond.code y bytes maxL ret :: GW) rm mc ms n :=
  ⟨hrc, hrs, hR.1, hR.2, fun w hw a' U hW => by
    rcases List.mem_cons.mp hw with h | h
    · subst h; exact word_at hW (good_of_word (GW_good _ hc)) (hg _ hc)
    · exact word_at hW (good_of_word (GW_good _ h)) (hg _ h), List.mem_cons_self, hg _ hc, hg _ hi, hy, fun sig h => by
    rw [h] at hd
    exact (Option.some.inj hd).symm, hg _ hl⟩
