/-! what a state must hold for the class's throws; ends and calls of methods that may throw -/
def kt_all : List Cond := kt_bad eA ++ (kt_bad eS ++ (kt_bad eI ++ kt_bad eN))
def kt_W (s : State) : Prop := (∀ w ∈ kt_all, va_Nw w s) ∧ kn_A s
theorem kt_all_tab : ∀ w ∈ kt_all, w.onTables = true := by decide +kernel
theorem kt_W.warm {s U : State} (hW : s.WarmedH U.vm) (h : kt_W s) : kt_W U := by
  refine ⟨fun w hw => ?_, va_Nw.warmM hW h.2.1, va_Nw.warmM hW h.2.2⟩
  have q := h.1 w hw
  simp only [kt_all, kt_bad, List.mem_append, List.mem_cons, List.not_mem_nil, or_false] at hw
  rcases hw with (rfl | rfl | rfl | rfl) | (rfl | rfl | rfl | rfl) | (rfl | rfl | rfl | rfl) | (rfl | rfl | rfl | rfl)
  all_goals first | exact va_Nw.warmC hW q | exact va_Nw.warmD hW q
theorem kt_W.same {s U : State} (hvm : s.vm = U.vm) (h : kt_W s) : kt_W U := ⟨fun w hw => va_Nw.same (kt_all_tab w hw) hvm (h.1 w hw), va_Nw.same rfl hvm h.2.1, va_Nw.same rfl hvm h.2.2⟩
def kt_E (A : Nat → Prop) (U : State) : Prop := kt_W U ∧ vx_Zq Bundle.tN "UNASSIGNED_STACK" Bundle.steD A U U.heap ∧ vx_Zq Bundle.tN "SUPPRESSED_SENTINEL" Bundle.listD A U U.heap
theorem kt_E.to {A B : Nat → Prop} {s U : State} {H : Heap} {locs : List Loc} (h : kt_E A s) (hS : va_S A s.heap H locs) (hAB : ∀ q, B q → A q) (hU : U.heap = H) (hW : s.WarmedH U.vm) : kt_E B U := by
  refine ⟨h.1.warm hW, ?_, ?_⟩
  · rw [hU]; exact vx_Zq.moved hW.alike ((h.2.1.kept hS.2.1).narrow hAB)
  · rw [hU]; exact vx_Zq.moved hW.alike ((h.2.2.kept hS.2.1).narrow hAB)
def kt_Pc (D : va_G) (cl : List vw_C) (tys : List (ClassId × FieldType)) (av : List Value) (ws : va_W) (sz : Nat) : Array Value → State → Prop := fun v U => kw_Pc D cl tys av ws sz v U ∧ kt_E (va_A ws sz) U
theorem kt_blind {D : va_G} {cl : List vw_C} {tys : List (ClassId × FieldType)} {av : List Value} {ws : va_W} {sz : Nat} : FrameBlind (kt_Pc D cl tys av ws sz) := fun a U g mk q => by
  refine ⟨kw_blind a U g mk q.1, kt_W.same (s := U) (U := U.calling g mk a) rfl q.2.1, ?_, ?_⟩
  · exact vx_Zq.moved (u := U) (U := U.calling g mk a) (Vm.Alike.refl U.vm) q.2.2.1
  · exact vx_Zq.moved (u := U) (U := U.calling g mk a) (Vm.Alike.refl U.vm) q.2.2.2
/-- thrown: which class, when; the world as it was -/
def kt_X (D : va_G) (cl : List vw_C) (tys : List (ClassId × FieldType)) (ws : va_W) (sz : Nat) (f : String → Prop) : String → State → State → Prop := vx_X (fun _ : Unit => True) (fun E _ t => f E ∧ kw_B D cl tys ws (va_A ws sz) t) (va_A ws sz)
def kt_i (D : va_G) (cl : List vw_C) (tys : List (ClassId × FieldType)) (ws : va_W) (sz : Nat) (P : Prop) (r : Int32) (w' : va_W) : Array Value → State → Outcome → State → Prop := va_Qi (fun x (u : va_W) => P ∧ x = r ∧ u = w') (fun u t => kw_B D cl tys u (va_A ws sz) t) (va_A ws sz)
def kt_v (D : va_G) (cl : List vw_C) (tys : List (ClassId × FieldType)) (ws : va_W) (sz : Nat) (P : Prop) (w' : va_W) : Array Value → State → Outcome → State → Prop := va_Qv (fun (u : va_W) => P ∧ u = w') (fun u t => kw_B D cl tys u (va_A ws sz) t) (va_A ws sz)
theorem kt_hat {args : Array Value} {s : State} {L : List Cond} {X : String} (hg : ∀ w ∈ GW, w.before args s = true) (hw : kt_W s) (h1 : ∀ w ∈ L.filter goodWord, w ∈ GW) (h2 : ∀ w ∈ L.filter (fun w => !goodWord w), w ∈ kt_bad X) (hX : ∀ w ∈ kt_bad X, w ∈ kt_all) : ∀ w ∈ L, w.before args s = true :=
  vx_hat (fun w h => hg w (h1 w h)) h2 (fun w h => va_Nw.use (kt_all_tab w (hX w h)) (hw.1 w (hX w h)))
theorem kt_inA : ∀ w ∈ kt_bad eA, w ∈ kt_all := by decide +kernel
theorem kt_inS : ∀ w ∈ kt_bad eS, w ∈ kt_all := by decide +kernel
theorem kt_inI : ∀ w ∈ kt_bad eI, w ∈ kt_all := by decide +kernel
theorem kt_inN : ∀ w ∈ kt_bad eN, w ∈ kt_all := by decide +kernel
theorem kt_oA : ∀ w ∈ Cond.classLink RD 27 eA :: Cond.initialized eA :: vx_at0 RD 29 eA eUp, vx_ot w = true := by decide +kernel
theorem kt_oS : ∀ w ∈ Cond.classLink RD 30 eS :: Cond.initialized eS :: vx_at0 RD 32 eS eUp, vx_ot w = true := by decide +kernel
theorem kt_oI : ∀ w ∈ Cond.classLink RD 137 eI :: Cond.initialized eI :: vx_at0 RD 139 eI eUp, vx_ot w = true := by decide +kernel
theorem kt_oN : ∀ w ∈ Cond.classLink RD 119 eN :: Cond.initialized eN :: vx_at0 RD 121 eN eUp, vx_ot w = true := by decide +kernel
section KTR
variable {p : Program} {l : Launch} {e : Env} {R : Room} {s : State} {m : MethodId} {args : Array Value} {below : List Frame} {meth : Method} {c : Code} {H : Heap} {locs : List Loc} {cells slots : Nat}
variable {cc : ByteArray} {pc : Nat} {ls : Array Slot} {rest st0 : List Value} {D : va_G} {cl : List vw_C} {tys : List (ClassId × FieldType)} {ws w' : va_W} {Qc : Array Value → State → Outcome → State → Prop} {mc ms : Nat}
/-- 'throw new E()' out of a method of the desk -/
theorem kt_throw {cls : String} {ik ic : Nat} {f : String → Prop} (hx : p.tables.exec = Jvm.exec) (hb : c.code = cc) (hl : l.stackTraces = false) (hg : ∀ w ∈ GW, w.before args s = true) (hown : s.vm.findClass RD = some m.cls) (hE : kt_E (va_A ws s.heap.size) s)
    (hcls : Bundle.fit cls = true) (hk : Cond.classLink RD ik cls ∈ GW) (hini : Cond.initialized cls ∈ GW) (h1 : ∀ w ∈ (vx_at0 RD ic cls eUp).filter goodWord, w ∈ GW) (h2 : ∀ w ∈ (vx_at0 RD ic cls eUp).filter (fun w => !goodWord w), w ∈ kt_bad cls) (h3 : ∀ w ∈ kt_bad cls, w ∈ kt_all) (h4 : ∀ w ∈ Cond.classLink RD ik cls :: Cond.initialized cls :: vx_at0 RD ic cls eUp, vx_ot w = true)
    (hnt : ∀ x ∈ c.exceptionTable.toList, False) (hK : va_K D cl tys s) (hP : va_P D cl ws H) (hD : va_D (va_A ws s.heap.size) ws) (hS : va_S (va_A ws s.heap.size) s.heap H locs) (hsize : ls.size = c.maxLocals)
    (d0 : decode cc pc = .ok (.new ik, 3)) (d3 : decode cc (pc + 3) = .ok (.dup, 1)) (d4 : decode cc (pc + 4) = .ok (.invokespecial ic, 3)) (d7 : decode cc (pc + 7) = .ok (.athrow, 1))
    (hRf : 5 < R.frames) (hRl : (rest.map fun v => v.category).sum + 81 ≤ R.locals) (hRc : cells + 1 ≤ R.cells) (hRs : slots + 6 ≤ R.slots) (hlocks : meth.locks = false) (hc : cells + 1 ≤ mc) (hs : slots + 6 ≤ ms) (hf : f cls) :
    W p l e R s m args below meth c H locs cells slots (vx_MQ below Qc (kt_X D cl tys ws s.heap.size f) args s mc ms (va_A ws s.heap.size)) (F0 m pc ls rest) := by
  refine vx_throw0 hx hb hl hown hcls (names := eUp) (by decide +kernel) (hg _ hk) (hg _ hini) (kt_hat hg hE.1 h1 h2 h3) h4 hE.2.1 hE.2.2 hS hsize d0 d3 d4 d7 (fun x hx => (hnt x hx).elim) hRf (by show _ + (13 * (2 + 1) + 42) ≤ _; omega) hRc hRs hlocks (fun t ha hz hk => ?_) hS.2.2 hc hs
  refine ⟨(), trivial, ⟨hf, hP.kept (fun k q hq => hk q.1 (hP k q hq).lt), va_K.moved ha hK, hD⟩, Nat.le_trans hS.1 hz, fun q h1 h2 => ?_⟩
  rw [hk q (Nat.lt_of_lt_of_le h1 hS.1)]
  exact hS.2.1 q h1 h2
theorem kt_iret {XC : String → State → State → Prop} {v r : Int32} {P : Prop} {w1 : va_W} (hx : p.tables.exec = Jvm.exec) (hb : c.code = cc) (hr : meth.sig.returnType = some .int) (hlocks : meth.locks = false) (hK : va_K D cl tys s) (hP : va_P D cl w1 H) (hD : va_D (va_A ws s.heap.size) w1) (hS : va_S (va_A ws s.heap.size) s.heap H locs) (hv : P ∧ v = r ∧ w1 = w') (hdg : decode cc pc = .ok (.ireturn, 1)) :
    W p l e R s m args below meth c H locs cells slots (vx_MQ below (kt_i D cl tys ws s.heap.size P r w') XC args s cells slots (va_A ws s.heap.size)) (F0 m pc ls [.int v]) :=
  vx_ret (W.iret hx hb hr (fun t ht hW => ⟨⟨v, w1, rfl, hv, by rw [ht]; exact hP, va_K.moved hW.alike hK, hD⟩, hS.F ht⟩) hS.2.2 hdg)
theorem kt_vret {XC : String → State → State → Prop} {P : Prop} {w1 : va_W} (hx : p.tables.exec = Jvm.exec) (hb : c.code = cc) (hr : meth.sig.returnType = none) (hlocks : meth.locks = false) (hK : va_K D cl tys s) (hP : va_P D cl w1 H) (hD : va_D (va_A ws s.heap.size) w1) (hS : va_S (va_A ws s.heap.size) s.heap H locs) (hv : P ∧ w1 = w') (hdg : decode cc pc = .ok (.return_, 1)) :
    W p l e R s m args below meth c H locs cells slots (vx_MQ below (kt_v D cl tys ws s.heap.size P w') XC args s cells slots (va_A ws s.heap.size)) (F0 m pc ls []) :=
  vx_ret (W.vret hx hb hr (fun t ht hW => ⟨⟨w1, rfl, hv, by rw [ht]; exact hP, va_K.moved hW.alike hK, hD⟩, hS.F ht⟩) hS.2.2 hdg)
end KTR
