/-! the law's wrappers: what they share -/
def ocl (G : Nat → ClassId) (ho : Nat) (f : Nat → Int64) : va_W := [(ho, .inl (G 2, 1, .inr (.inl f)))]
def kl_N (s : State) : Prop := va_Nc eA eI s ∧ va_Nc eS eA s ∧ va_Nc eS eI s ∧ va_Nc eN eI s ∧ va_Nc eN eA s
theorem kl_N.moved {s U : State} (h : s.vm.Alike U.vm) (hN : kl_N s) : kl_N U := ⟨va_Nc.moved h hN.1, va_Nc.moved h hN.2.1, va_Nc.moved h hN.2.2.1, va_Nc.moved h hN.2.2.2.1, va_Nc.moved h hN.2.2.2.2⟩
def kl_Pc (D : va_G) (cl : List vw_C) (tys : List (ClassId × FieldType)) (av : List Value) (ws : va_W) (sz : Nat) : Array Value → State → Prop := fun v U => kt_Pc D cl tys av ws sz v U ∧ kl_N U
theorem kl_blind {D : va_G} {cl : List vw_C} {tys : List (ClassId × FieldType)} {av : List Value} {ws : va_W} {sz : Nat} : FrameBlind (kl_Pc D cl tys av ws sz) := fun a U g mk q => ⟨kt_blind a U g mk q.1, kl_N.moved (s := U) (U := U.calling g mk a) (Vm.Alike.refl U.vm) q.2⟩
def kl_po {U : Type} (fx : String → Prop) (po : Int32 → U → Prop) (cd : String → Int32) (k : Int32) (z : Option (Int32 × U)) : Prop := match z with
  | some q => k = 0 ∧ po q.1 q.2
  | none => ∃ E, fx E ∧ k = cd E
def kl_w {U : Type} (G : Nat → ClassId) (ho : Nat) (f : Nat → Int64) (wd : va_W) (wf : U → va_W) (z : Option (Int32 × U)) : va_W := match z with
  | some q => ocl G ho (vp_updL f 0 q.1.toInt64) ++ wf q.2
  | none => ocl G ho f ++ wd
def kl_pov {U : Type} (fx : String → Prop) (po : U → Prop) (cd : String → Int32) (k : Int32) (z : Option U) : Prop := match z with
  | some u => k = 0 ∧ po u
  | none => ∃ E, fx E ∧ k = cd E
def kl_wv {U : Type} (wd : va_W) (wf : U → va_W) (z : Option U) : va_W := match z with
  | some u => wf u
  | none => wd
def cd_A (E : String) : Int32 := if E = eA then 1 else 2
def cd_I (E : String) : Int32 := if E = eI then 1 else if E = eA then 2 else 3
theorem vx_toMet {l : Launch} {y : MethodName} {ws : List Cond} {rm : Room} {Pc : Array Value → State → Prop} {Qc : Array Value → State → Outcome → State → Prop} {mc ms : Nat} {free : Addr → Prop} (h : vx_Met l y ws rm Pc Qc (fun _ _ _ => False) mc ms free) : Met l y ws rm Pc Qc mc ms free :=
  MetFree.mono h (fun _ _ q => q) (fun _ _ _ _ _ q => q) (fun _ _ _ _ _ q => q.elim id (fun ⟨_, _, _, _, _, hF, _⟩ => hF.elim))
theorem kt_lift {l : Launch} {y : MethodName} {ws : List Cond} {rm : Room} {D : va_G} {cl : List vw_C} {tys : List (ClassId × FieldType)} {av : List Value} {w w' : va_W} {sz : Nat} {r : Int32} {XC : String → State → State → Prop} {mc ms : Nat} {free : Addr → Prop} (h : Met l y ws rm (kw_Pc D cl tys av w sz) (kw_i D cl tys w sz r w') mc ms free) : vx_Met l y ws rm (kt_Pc D cl tys av w sz) (kt_i D cl tys w sz True r w') XC mc ms free :=
  MetFree.mono h (fun _ _ q => q.1) (fun _ _ _ _ _ q => q) (fun _ _ _ _ _ q => Or.inl ⟨by
    obtain ⟨⟨x, u, h1, h2, h3⟩, h4⟩ := q.1
    exact ⟨⟨x, u, h1, ⟨trivial, h2⟩, h3⟩, h4⟩, q.2⟩)
section KLR
variable {p : Program} {l : Launch} {e : Env} {R : Room} {s : State} {m : MethodId} {args : Array Value} {below : List Frame} {meth : Method} {c : Code} {H : Heap} {locs : List Loc} {cells slots : Nat} {Q : State → Prop}
variable {cc : ByteArray} {pc : Nat} {ls : Array Slot} {rest st0 : List Value} {D : va_G} {cl : List vw_C} {A : Nat → Prop} {tys : List (ClassId × FieldType)} {ws wc wr w' : va_W} {H0 : Heap} {mc ms : Nat} {a : Array Value}
theorem kl_preV {As : List Value} {b q0 ci : Nat} {q : vw_C} {fs : List Value} (hK : va_K D cl tys s) (hP : va_P D cl ws H) (hD : va_D A ws) (hE : kt_E A s) (hS : va_S A s.heap H locs) (hAB : ∀ q, va_A ws H.size q → A q) (hc : cl[ci]? = some q) (he : ws[q0]? = some (b, .inr (ci, fs))) : PreV s H q.1 b (kt_Pc D cl tys (.ref b :: As) ws H.size) As :=
  ⟨kt_blind, va_recv hK hP hc he, fun _ hU hW => ⟨kw_at hK hP hD hU hW, kt_E.to hE hS hAB hU hW⟩⟩
theorem kl_preS {As : List Value} (hK : va_K D cl tys s) (hP : va_P D cl ws H) (hD : va_D A ws) (hE : kt_E A s) (hN : kl_N s) (hS : va_S A s.heap H locs) (hAB : ∀ q, va_A ws H.size q → A q) : PreS s H (kl_Pc D cl tys As ws H.size) As :=
  ⟨kl_blind, fun _ hU hW => ⟨⟨kw_at hK hP hD hU hW, kt_E.to hE hS hAB hU hW⟩, kl_N.moved hW.alike hN⟩⟩
theorem kt_reti {U : Type} {po : Int32 → U → Prop} {wf : U → va_W} {fx : String → Prop} (hr : vx_Run p l e R s m args below meth c H locs cells slots mc ms (F0 m pc ls st0) rest (va_Qi po (fun u t => kw_B D cl tys (wf u) (va_A wc H.size) t) (va_A wc H.size) a) (kt_X D cl tys wc H.size fx) (va_A wc H.size)) (hP : va_P D cl (wc ++ wr) H) (hD : va_D A (wc ++ wr)) (hS : va_S A H0 H locs) (hA : ∀ q, H0.size ≤ q → A q)
    (kx : ∀ (E : String) (ce : Cell) (q9 : Addr) (H : Heap) (locs : List Loc), fx E → va_P D cl (wc ++ wr) H → va_D A (wc ++ wr) → va_S A H0 H locs → H[q9]? = some ce → ce.vm = .none → s.vm.findClass E = some ce.cls → vx_W p l e R s m args below meth c H locs (cells + mc) (slots + ms) Q (F0 m pc ls rest) q9)
    (kk : ∀ (r : Int32) (u : U) (H : Heap) (locs : List Loc), po r u → va_P D cl (wf u ++ wr) H → va_D A (wf u ++ wr) → va_S A H0 H locs → W p l e R s m args below meth c H locs (cells + mc) (slots + ms) Q (F0 m (pc + 3) ls (.int r :: rest))) : W p l e R s m args below meth c H locs cells slots Q (F0 m pc ls st0) := by
  have hF := kw_free hD hS hA
  refine vx_calli hr hS (fun q _ h => hF q h) hF (fun q _ h => hF q h) (fun E ce q9 u t H1 locs1 ht hvm hp hB hz hk hS1 h1 h2 h3 => ?_) (fun r u t H1 locs1 ht hvm hp hB hz hk hS1 => ?_)
  · obtain ⟨hf, hP1, hK1, hD1⟩ := hB
    rw [ht] at hP1
    obtain ⟨j1, j2⟩ := kw_join hP hD hk hF hP1 hD1
    exact kx E ce q9 H1 locs1 hf j1 j2 hS1 h1 h2 h3
  · obtain ⟨hP1, hK1, hD1⟩ := hB
    rw [ht] at hP1
    obtain ⟨j1, j2⟩ := kw_join hP hD hk hF hP1 hD1
    exact kk r u H1 locs1 hp j1 j2 hS1
theorem kt_retv {U : Type} {po : U → Prop} {wf : U → va_W} {fx : String → Prop} (hr : vx_Run p l e R s m args below meth c H locs cells slots mc ms (F0 m pc ls st0) rest (va_Qv po (fun u t => kw_B D cl tys (wf u) (va_A wc H.size) t) (va_A wc H.size) a) (kt_X D cl tys wc H.size fx) (va_A wc H.size)) (hP : va_P D cl (wc ++ wr) H) (hD : va_D A (wc ++ wr)) (hS : va_S A H0 H locs) (hA : ∀ q, H0.size ≤ q → A q)
    (kx : ∀ (E : String) (ce : Cell) (q9 : Addr) (H : Heap) (locs : List Loc), fx E → va_P D cl (wc ++ wr) H → va_D A (wc ++ wr) → va_S A H0 H locs → H[q9]? = some ce → ce.vm = .none → s.vm.findClass E = some ce.cls → vx_W p l e R s m args below meth c H locs (cells + mc) (slots + ms) Q (F0 m pc ls rest) q9)
    (kk : ∀ (u : U) (H : Heap) (locs : List Loc), po u → va_P D cl (wf u ++ wr) H → va_D A (wf u ++ wr) → va_S A H0 H locs → W p l e R s m args below meth c H locs (cells + mc) (slots + ms) Q (F0 m (pc + 3) ls rest)) : W p l e R s m args below meth c H locs cells slots Q (F0 m pc ls st0) := by
  have hF := kw_free hD hS hA
  refine vx_callv hr hS (fun q _ h => hF q h) hF (fun q _ h => hF q h) (fun E ce q9 u t H1 locs1 ht hvm hp hB hz hk hS1 h1 h2 h3 => ?_) (fun u t H1 locs1 ht hvm hp hB hz hk hS1 => ?_)
  · obtain ⟨hf, hP1, hK1, hD1⟩ := hB
    rw [ht] at hP1
    obtain ⟨j1, j2⟩ := kw_join hP hD hk hF hP1 hD1
    exact kx E ce q9 H1 locs1 hf j1 j2 hS1 h1 h2 h3
  · obtain ⟨hP1, hK1, hD1⟩ := hB
    rw [ht] at hP1
    obtain ⟨j1, j2⟩ := kw_join hP hD hk hF hP1 hD1
    exact kk u H1 locs1 hp j1 j2 hS1
theorem kl_iret {U : Type} {po : Int32 → U → Prop} {wf : U → va_W} {XC : String → State → State → Prop} {v : Int32} {w1 : va_W} (u : U) (hx : p.tables.exec = Jvm.exec) (hb : c.code = cc) (hr : meth.sig.returnType = some .int) (hlocks : meth.locks = false) (hK : va_K D cl tys s) (hP : va_P D cl w1 H) (hD : va_D (va_A ws s.heap.size) w1) (hS : va_S (va_A ws s.heap.size) s.heap H locs) (hv : po v u) (hw : w1 = wf u) (hdg : decode cc pc = .ok (.ireturn, 1)) :
    W p l e R s m args below meth c H locs cells slots (vx_MQ below (va_Qi po (fun u t => kw_B D cl tys (wf u) (va_A ws s.heap.size) t) (va_A ws s.heap.size)) XC args s cells slots (va_A ws s.heap.size)) (F0 m pc ls [.int v]) := by
  subst hw
  exact vx_ret (W.iret hx hb hr (fun t ht hW => ⟨⟨v, u, rfl, hv, by rw [ht]; exact hP, va_K.moved hW.alike hK, hD⟩, hS.F ht⟩) hS.2.2 hdg)
end KLR
theorem kl_castI {s : State} {args : Array Value} {A : Nat → Prop} (h : kt_E A s) : (Cond.castable eI eI).before args s = true := va_Nw.use rfl (h.1.1 _ (kt_inI _ List.mem_cons_self))
theorem kl_castA {s : State} {args : Array Value} {A : Nat → Prop} (h : kt_E A s) : (Cond.castable eA eA).before args s = true := va_Nw.use rfl (h.1.1 _ (kt_inA _ List.mem_cons_self))
theorem kl_castS {s : State} {args : Array Value} {A : Nat → Prop} (h : kt_E A s) : (Cond.castable eS eS).before args s = true := va_Nw.use rfl (h.1.1 _ (kt_inS _ List.mem_cons_self))
theorem kl_castN {s : State} {args : Array Value} {A : Nat → Prop} (h : kt_E A s) : (Cond.castable eN eN).before args s = true := va_Nw.use rfl (h.1.1 _ (kt_inN _ List.mem_cons_self))
