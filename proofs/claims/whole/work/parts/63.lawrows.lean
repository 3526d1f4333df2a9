/-! the law: rows -/
def bz (x : Int32) : Int32 := if x = 0 then 0 else 1
theorem bz_in (x : Int32) : kz_in (bz x) := by
  unfold bz
  split
  · exact Or.inl rfl
  · exact Or.inr rfl
section KGR
variable {p : Program} {l : Launch} {e : Env} {R : Room} {s : State} {m : MethodId} {args : Array Value} {below : List Frame} {meth : Method} {c : Code} {H : Heap} {locs : List Loc} {cells slots : Nat} {Q : State → Prop}
variable {cc : ByteArray} {pc : Nat} {ls : Array Slot} {rest st0 : List Value} {D : va_G} {cl : List vw_C} {A : Nat → Prop} {tys : List (ClassId × FieldType)} {ws wc wr w' : va_W} {H0 : Heap} {mc ms : Nat} {a : Array Value}
theorem kg_reti {U : Type} {po : Int32 → U → Prop} {wf : U → va_W} (hr : va_Run p l e R s m args below meth c H locs cells slots mc ms (F0 m pc ls st0) rest (va_Qi po (fun u t => kw_B D cl tys (wf u) (va_A wc H.size) t) (va_A wc H.size) a) (va_A wc H.size)) (hP : va_P D cl (wc ++ wr) H) (hD : va_D A (wc ++ wr)) (hS : va_S A H0 H locs) (hA : ∀ q, H0.size ≤ q → A q)
    (kk : ∀ (r : Int32) (u : U) (H : Heap) (locs : List Loc), po r u → va_P D cl (wf u ++ wr) H → va_D A (wf u ++ wr) → va_S A H0 H locs → W p l e R s m args below meth c H locs (cells + mc) (slots + ms) Q (F0 m (pc + 3) ls (.int r :: rest))) : W p l e R s m args below meth c H locs cells slots Q (F0 m pc ls st0) := by
  have hF := kw_free hD hS hA
  refine va_calli hr hS (fun q _ h => hF q h) hF (fun r u t H1 locs1 ht hvm hp hB hz hk hS1 => ?_)
  obtain ⟨hP1, hK1, hD1⟩ := hB
  rw [ht] at hP1
  obtain ⟨j1, j2⟩ := kw_join hP hD hk hF hP1 hD1
  exact kk r u H1 locs1 hp j1 j2 hS1
theorem kg_retv {U : Type} {po : U → Prop} {wf : U → va_W} (hr : va_Run p l e R s m args below meth c H locs cells slots mc ms (F0 m pc ls st0) rest (va_Qv po (fun u t => kw_B D cl tys (wf u) (va_A wc H.size) t) (va_A wc H.size) a) (va_A wc H.size)) (hP : va_P D cl (wc ++ wr) H) (hD : va_D A (wc ++ wr)) (hS : va_S A H0 H locs) (hA : ∀ q, H0.size ≤ q → A q)
    (kk : ∀ (u : U) (H : Heap) (locs : List Loc), po u → va_P D cl (wf u ++ wr) H → va_D A (wf u ++ wr) → va_S A H0 H locs → W p l e R s m args below meth c H locs (cells + mc) (slots + ms) Q (F0 m (pc + 3) ls rest)) : W p l e R s m args below meth c H locs cells slots Q (F0 m pc ls st0) := by
  have hF := kw_free hD hS hA
  refine va_callv hr hS (fun q _ h => hF q h) hF (fun u t H1 locs1 ht hvm hp hB hz hk hS1 => ?_)
  obtain ⟨hP1, hK1, hD1⟩ := hB
  rw [ht] at hP1
  obtain ⟨j1, j2⟩ := kw_join hP hD hk hF hP1 hD1
  exact kk u H1 locs1 hp j1 j2 hS1
/-- a number of the script -/
theorem ks_ld (hx : p.tables.exec = Jvm.exec) (hb : c.code = cc) {sb L : Nat} {xs : Nat → Int32} (hX : va_X sb L xs s H0) (hbl : sb < H0.size) (hbA : ¬ A sb) (hS : va_S A H0 H locs) {i : Nat} (k : Nat) (hk : i + k < L) (hL : L < 2 ^ 31) {v : Int32} (hv : v = nI i + nI k) (hdg : decode cc pc = .ok (.iaload, 1))
    (kk : W p l e R s m args below meth c H locs cells slots Q (F0 m (pc + 1) ls (.int (xs (i + k)) :: rest))) : W p l e R s m args below meth c H locs cells slots Q (F0 m pc ls (.int v :: .ref sb :: rest)) := by
  have e1 : v = nI (i + k) := hv.trans (nI_add i k)
  subst e1
  refine va_sld hx hb hX hbl hbA hS (vp_in_nI hk hL) hdg ?_
  rw [nI_clamp (by omega)]
  exact kk
end KGR
/-- a static call's words, where the callee has handlers -/
theorem kl_cSW {R : Room} {s : State} {args : Array Value} {own : String} {index maxL n mc ms : Nat} {y : MethodName} {bytes : ByteArray} {ret : Option FieldType} {hh : List (Nat × Nat × Nat × Nat)} {rm : Room} (hg : ∀ w ∈ GW, w.before args s = true) (hc : Cond.codeWith y bytes maxL ret hh ∈ GW) (hi : Cond.initialized y.cls ∈ GW) (hl : Cond.methodLink own index y ∈ GW) (hst : Cond.static y ∈ GW) (hy : y.cls ≠ "java/lang/invoke/MethodHandle" ∧ y.cls ≠ "java/lang/invoke/VarHandle") (hd : (parseMethodDescriptor y.desc).map (fun d => d.parameters.length) = some n) (hR : rm.frames + 1 ≤ R.frames ∧ 8 + (maxL + 11) + rm.locals ≤ R.locals) (hrc : rm.cells = mc) (hrs : rm.slots = ms) :
    vx_CSW R s args own index y bytes maxL ret hh (Cond.codeWith y bytes maxL ret hh :: GW) rm mc ms n :=
  ⟨⟨hrc, hrs, hR.1, hR.2, fun w hw a' U hW => by
    rcases List.mem_cons.mp hw with h | h
    · subst h; exact word_at hW (good_of_word (GW_good _ hc)) (hg _ hc)
    · exact word_at hW (good_of_word (GW_good _ h)) (hg _ h), List.mem_cons_self⟩, hg _ hc, hg _ hi, hy, fun sig h => by
    rw [h] at hd
    exact (Option.some.inj hd).symm, hg _ hl, hg _ hst⟩
