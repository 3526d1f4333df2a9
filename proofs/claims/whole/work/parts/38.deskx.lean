/-! the desk: no such loan -/
theorem kt_pass {p : Program} {l : Launch} {e : Env} {R : Room} {s : State} {m : MethodId} {args : Array Value} {below : List Frame} {meth : Method} {c : Code} {pc mc ms : Nat} {ls : Array Slot} {rest st0 : List Value} {D : va_G} {cl : List vw_C} {tys : List (ClassId × FieldType)} {ws : va_W} {f : String → Prop} {Qc : Array Value → State → Outcome → State → Prop}
    (hr : vx_Run p l e R s m args below meth c s.heap [] 0 0 1 6 (F0 m pc ls st0) rest (fun _ _ _ => False) (kt_X D cl tys ws s.heap.size f) (va_A ws s.heap.size)) (hnt : ∀ x ∈ c.exceptionTable.toList, False) (hlocks : meth.locks = false) (hK : va_K D cl tys s) (hc : 1 ≤ mc) (hs : 6 ≤ ms) :
    W p l e R s m args below meth c s.heap [] 0 0 (vx_MQ below Qc (kt_X D cl tys ws s.heap.size f) args s mc ms (va_A ws s.heap.size)) (F0 m pc ls st0) := by
  intro T hT X
  rcases hr T hT X with ⟨v, st₀, t, T', L, h0, X', hL, e1, e2, hq, st⟩ | ⟨q, st₀, t, T', L, E, ce, h0, X', hL, e1, e2, ⟨u, hp, ⟨hf, hP, hK1, hD⟩, hz, hk⟩, hce, hcv, hcl, st⟩
  · exact hq.elim
  · rw [h0] at hz hk
    obtain ⟨t2, a1, b1⟩ := vx_out (Qc := Qc) (XC := kt_X D cl tys ws s.heap.size f) (free := va_A ws s.heap.size) (ls := ls) (rest := rest) (pc := pc) (mc := mc) (ms := ms) (fun x hx => (hnt x hx).elim) hlocks (by rw [e1]; exact hce) hcv hcl
      (fun t' ht' ha => ⟨(), trivial, ⟨hf, by rw [ht', e1]; exact hP, va_K.moved ha hK, hD⟩, by rw [ht', e1]; exact hz, fun q h1 h2 => by rw [ht', e1]; exact hk q h1 h2⟩) (fun z hz => by rw [List.nil_append] at hz; exact hL z hz) (by omega) (by omega) T' rfl X'
    exact ⟨t2, st.trans a1, b1⟩
theorem kt_preV {D : va_G} {cl : List vw_C} {tys : List (ClassId × FieldType)} {As : List Value} {ws : va_W} {A : Nat → Prop} {s : State} {b q0 ci : Nat} {q : vw_C} {fs : List Value} (hK : va_K D cl tys s) (hP : va_P D cl ws s.heap) (hD : va_D A ws) (hE : kt_E (va_A ws s.heap.size) s) (hc : cl[ci]? = some q) (he : ws[q0]? = some (b, .inr (ci, fs))) : PreV s s.heap q.1 b (kt_Pc D cl tys (.ref b :: As) ws s.heap.size) As :=
  ⟨kt_blind, va_recv hK hP hc he, fun _ hU hW => ⟨kw_at hK hP hD hU hW, hE.to va_S.rf (fun _ h => h) hU hW⟩⟩
abbrev rm_D_findx : Room := { frames := 6, cells := 1, slots := 6, locals := 81 }
set_option maxRecDepth 100000 in
set_option maxHeartbeats 4000000 in
theorem c_D_findx (l : Launch) (hlt : l.stackTraces = false) (D : va_G) (G : Nat → ClassId) (hd ha : Nat) (cnt today : Int32) (g : Nat → Option Nat) (rest : va_W) (loan : Int32) (sz : Nat) (hix : loan < 0 ∨ ¬ loan < cnt) : vx_Met l yD_find wgD_find rm_D_findx (kt_Pc D vwCl (gt G) [.ref hd, .int loan] (dtl G hd ha cnt today g rest) sz) (fun _ _ _ _ => False) (kt_X D vwCl (gt G) (dtl G hd ha cnt today g rest) sz (fun E => E = eI)) 1 6 (va_A (dtl G hd ha cnt today g rest) sz) := by
  refine vx_ofW (cc := cD_find) (maxL := 2) (ret := (some (.object "LoanDesk$Loan"))) (by decide) rfl ?_
  intro p e s m args below meth c s₁ B hml hnt hv
  have hx := B.exec
  have hb := B.bytes
  have hr := B.returns
  have hts := atoms_spec (ws := wgD_find) B.pre
  have hg : ∀ w ∈ GW, w.before args s = true := fun w h => hts w (List.mem_cons_of_mem _ h)
  have hown : s.vm.findClass RD = some m.cls := findClass_of_methodNamed B.named
  have hlocks := B.notSynchronized
  obtain ⟨⟨hv, hsz, hP, hK, hD0⟩, hE⟩ := hv
  subst hsz
  have hD := hD0.self (sz := s.heap.size)
  have hS : va_S (va_A (dtl G hd ha cnt today g rest) s.heap.size) s.heap s.heap [] := va_S.rf
  refine kw_entry [.ref hd, .int loan] hv (Nat.le_of_ble_eq_true rfl) (fun ls hl => ?_)
  have hl : lv_has ls 2 [(0, .ref hd), (1, .int loan)] := hl
  have out : W p l e (headSpec wgD_find rm_D_findx).room s m args below meth c s.heap [] 0 0 (vx_MQ below (fun _ _ _ _ => False) (kt_X D vwCl (gt G) (dtl G hd ha cnt today g rest) s.heap.size (fun E => E = eI)) args s 1 6 (va_A (dtl G hd ha cnt today g rest) s.heap.size)) (F0 m 12 ls []) :=
    kt_throw hx hb hlt hg hown hE (by decide +kernel) gw_309 gw_16 kt_gI kt_bI kt_inI kt_oI hnt hK hP hD hS (hl.1.trans hml.symm) dD_find_12 dD_find_15 dD_find_16 dD_find_19 (Nat.le_of_ble_eq_true rfl) (Nat.le_of_ble_eq_true rfl) (Nat.le_of_ble_eq_true rfl) (Nat.le_of_ble_eq_true rfl) hlocks (Nat.le_of_ble_eq_true rfl) (Nat.le_of_ble_eq_true rfl) rfl
  refine lv_iload_n hx hb dD_find_0 rfl (lv_at hl 1 rfl) ?_
  refine lv_if_lt (tgt := 12) hx hb dD_find_1 (by decide) (fun _ => out) (fun h => ?_)
  refine lv_iload_n hx hb dD_find_4 rfl (lv_at hl 1 rfl) ?_
  refine lv_aload_n hx hb dD_find_5 rfl (lv_at hl 0 rfl) ?_
  refine va_get (v := .int cnt) hx hb hg hin_D hown hK hP 0 rfl rfl 1 (by decide) (hg _ gw_28) (fun _ h => h) rfl dD_find_6 ?_
  exact lv_icmp_lt (tgt := 20) hx hb dD_find_9 (by decide) (fun h2 => absurd h2 (hix.resolve_left h)) (fun _ => out)
abbrev rm_D_chargex : Room := { frames := 7, cells := 1, slots := 6, locals := 102 }
set_option maxRecDepth 100000 in
set_option maxHeartbeats 4000000 in
theorem c_D_chargex (l : Launch) (hlt : l.stackTraces = false) (D : va_G) (G : Nat → ClassId) (hd ha : Nat) (cnt today : Int32) (g : Nat → Option Nat) (rest : va_W) (loan charge : Int32) (sz : Nat) (hix : loan < 0 ∨ ¬ loan < cnt) : vx_Met l yD_charge wgD_charge rm_D_chargex (kt_Pc D vwCl (gt G) [.ref hd, .int loan, .int charge] (dtl G hd ha cnt today g rest) sz) (fun _ _ _ _ => False) (kt_X D vwCl (gt G) (dtl G hd ha cnt today g rest) sz (fun E => E = eI)) 1 6 (va_A (dtl G hd ha cnt today g rest) sz) := by
  refine vx_ofW (cc := cD_charge) (maxL := 4) (ret := none) (by decide) rfl ?_
  intro p e s m args below meth c s₁ B hml hnt hv
  have hx := B.exec
  have hb := B.bytes
  have hts := atoms_spec (ws := wgD_charge) B.pre
  have hg : ∀ w ∈ GW, w.before args s = true := fun w h => hts w (List.mem_cons_of_mem _ h)
  have hown : s.vm.findClass RD = some m.cls := findClass_of_methodNamed B.named
  have hlocks := B.notSynchronized
  obtain ⟨⟨hv, hsz, hP, hK, hD0⟩, hE⟩ := hv
  subst hsz
  refine kw_entry [.ref hd, .int loan, .int charge] hv (Nat.le_of_ble_eq_true rfl) (fun ls hl => ?_)
  have hl : lv_has ls 4 [(0, .ref hd), (1, .int loan), (2, .int charge)] := hl
  refine lv_aload_n hx hb dD_charge_0 rfl (lv_at hl 0 rfl) ?_
  refine lv_iload_n hx hb dD_charge_1 rfl (lv_at hl 1 rfl) ?_
  exact kt_pass (vx_runV (C := RD) (As := [.int loan]) (rest := []) ⟨hx, hb, hml, hown, hg⟩ (c_D_findx l hlt D G hd ha cnt today g rest loan _ hix) ⟨kw_cB (n := 1) hg gw_308 gw_1 gw_306 (by decide +kernel) (by decide +kernel) ⟨Nat.le_of_ble_eq_true rfl, Nat.le_of_ble_eq_true rfl⟩ rfl rfl, hg _ gw_307, hg _ gw_737⟩ (kt_preV (q0 := 0) hK hP hD0 hE rfl rfl) rfl rfl hl.1 rfl (lv_room (Nat.le_of_ble_eq_true rfl)) dD_charge_2 ⟨Nat.le_of_ble_eq_true rfl, Nat.le_of_ble_eq_true rfl⟩) hnt hlocks hK (by decide) (by decide)
abbrev rm_D_payx : Room := { frames := 7, cells := 1, slots := 6, locals := 102 }
set_option maxRecDepth 100000 in
set_option maxHeartbeats 4000000 in
theorem c_D_payx (l : Launch) (hlt : l.stackTraces = false) (D : va_G) (G : Nat → ClassId) (hd ha : Nat) (cnt today : Int32) (g : Nat → Option Nat) (rest : va_W) (loan cents : Int32) (sz : Nat) (hix : loan < 0 ∨ ¬ loan < cnt) : vx_Met l yD_pay wgD_pay rm_D_payx (kt_Pc D vwCl (gt G) [.ref hd, .int loan, .int cents] (dtl G hd ha cnt today g rest) sz) (fun _ _ _ _ => False) (kt_X D vwCl (gt G) (dtl G hd ha cnt today g rest) sz (fun E => E = eI)) 1 6 (va_A (dtl G hd ha cnt today g rest) sz) := by
  refine vx_ofW (cc := cD_pay) (maxL := 4) (ret := (some .int)) (by decide) rfl ?_
  intro p e s m args below meth c s₁ B hml hnt hv
  have hx := B.exec
  have hb := B.bytes
  have hts := atoms_spec (ws := wgD_pay) B.pre
  have hg : ∀ w ∈ GW, w.before args s = true := fun w h => hts w (List.mem_cons_of_mem _ h)
  have hown : s.vm.findClass RD = some m.cls := findClass_of_methodNamed B.named
  have hlocks := B.notSynchronized
  obtain ⟨⟨hv, hsz, hP, hK, hD0⟩, hE⟩ := hv
  subst hsz
  refine kw_entry [.ref hd, .int loan, .int cents] hv (Nat.le_of_ble_eq_true rfl) (fun ls hl => ?_)
  have hl : lv_has ls 4 [(0, .ref hd), (1, .int loan), (2, .int cents)] := hl
  refine lv_aload_n hx hb dD_pay_0 rfl (lv_at hl 0 rfl) ?_
  refine lv_iload_n hx hb dD_pay_1 rfl (lv_at hl 1 rfl) ?_
  exact kt_pass (vx_runV (C := RD) (As := [.int loan]) (rest := []) ⟨hx, hb, hml, hown, hg⟩ (c_D_findx l hlt D G hd ha cnt today g rest loan _ hix) ⟨kw_cB (n := 1) hg gw_308 gw_1 gw_306 (by decide +kernel) (by decide +kernel) ⟨Nat.le_of_ble_eq_true rfl, Nat.le_of_ble_eq_true rfl⟩ rfl rfl, hg _ gw_307, hg _ gw_737⟩ (kt_preV (q0 := 0) hK hP hD0 hE rfl rfl) rfl rfl hl.1 rfl (lv_room (Nat.le_of_ble_eq_true rfl)) dD_pay_2 ⟨Nat.le_of_ble_eq_true rfl, Nat.le_of_ble_eq_true rfl⟩) hnt hlocks hK (by decide) (by decide)
abbrev rm_D_partx : Room := { frames := 7, cells := 1, slots := 6, locals := 102 }
set_option maxRecDepth 100000 in
set_option maxHeartbeats 4000000 in
theorem c_D_partx (l : Launch) (hlt : l.stackTraces = false) (D : va_G) (G : Nat → ClassId) (hd ha : Nat) (cnt today : Int32) (g : Nat → Option Nat) (rest : va_W) (loan what : Int32) (sz : Nat) (hix : loan < 0 ∨ ¬ loan < cnt) : vx_Met l yD_part wgD_part rm_D_partx (kt_Pc D vwCl (gt G) [.ref hd, .int loan, .int what] (dtl G hd ha cnt today g rest) sz) (fun _ _ _ _ => False) (kt_X D vwCl (gt G) (dtl G hd ha cnt today g rest) sz (fun E => E = eI)) 1 6 (va_A (dtl G hd ha cnt today g rest) sz) := by
  refine vx_ofW (cc := cD_part) (maxL := 4) (ret := (some .int)) (by decide) rfl ?_
  intro p e s m args below meth c s₁ B hml hnt hv
  have hx := B.exec
  have hb := B.bytes
  have hts := atoms_spec (ws := wgD_part) B.pre
  have hg : ∀ w ∈ GW, w.before args s = true := fun w h => hts w (List.mem_cons_of_mem _ h)
  have hown : s.vm.findClass RD = some m.cls := findClass_of_methodNamed B.named
  have hlocks := B.notSynchronized
  obtain ⟨⟨hv, hsz, hP, hK, hD0⟩, hE⟩ := hv
  subst hsz
  refine kw_entry [.ref hd, .int loan, .int what] hv (Nat.le_of_ble_eq_true rfl) (fun ls hl => ?_)
  have hl : lv_has ls 4 [(0, .ref hd), (1, .int loan), (2, .int what)] := hl
  refine lv_aload_n hx hb dD_part_0 rfl (lv_at hl 0 rfl) ?_
  refine lv_iload_n hx hb dD_part_1 rfl (lv_at hl 1 rfl) ?_
  exact kt_pass (vx_runV (C := RD) (As := [.int loan]) (rest := []) ⟨hx, hb, hml, hown, hg⟩ (c_D_findx l hlt D G hd ha cnt today g rest loan _ hix) ⟨kw_cB (n := 1) hg gw_308 gw_1 gw_306 (by decide +kernel) (by decide +kernel) ⟨Nat.le_of_ble_eq_true rfl, Nat.le_of_ble_eq_true rfl⟩ rfl rfl, hg _ gw_307, hg _ gw_737⟩ (kt_preV (q0 := 0) hK hP hD0 hE rfl rfl) rfl rfl hl.1 rfl (lv_room (Nat.le_of_ble_eq_true rfl)) dD_part_2 ⟨Nat.le_of_ble_eq_true rfl, Nat.le_of_ble_eq_true rfl⟩) hnt hlocks hK (by decide) (by decide)
abbrev rm_D_duex : Room := { frames := 7, cells := 1, slots := 6, locals := 102 }
set_option maxRecDepth 100000 in
set_option maxHeartbeats 4000000 in
theorem c_D_duex (l : Launch) (hlt : l.stackTraces = false) (D : va_G) (G : Nat → ClassId) (hd ha : Nat) (cnt today : Int32) (g : Nat → Option Nat) (rest : va_W) (loan kk : Int32) (sz : Nat) (hix : loan < 0 ∨ ¬ loan < cnt) : vx_Met l yD_due wgD_due rm_D_duex (kt_Pc D vwCl (gt G) [.ref hd, .int loan, .int kk] (dtl G hd ha cnt today g rest) sz) (fun _ _ _ _ => False) (kt_X D vwCl (gt G) (dtl G hd ha cnt today g rest) sz (fun E => E = eI)) 1 6 (va_A (dtl G hd ha cnt today g rest) sz) := by
  refine vx_ofW (cc := cD_due) (maxL := 4) (ret := (some .int)) (by decide) rfl ?_
  intro p e s m args below meth c s₁ B hml hnt hv
  have hx := B.exec
  have hb := B.bytes
  have hts := atoms_spec (ws := wgD_due) B.pre
  have hg : ∀ w ∈ GW, w.before args s = true := fun w h => hts w (List.mem_cons_of_mem _ h)
  have hown : s.vm.findClass RD = some m.cls := findClass_of_methodNamed B.named
  have hlocks := B.notSynchronized
  obtain ⟨⟨hv, hsz, hP, hK, hD0⟩, hE⟩ := hv
  subst hsz
  refine kw_entry [.ref hd, .int loan, .int kk] hv (Nat.le_of_ble_eq_true rfl) (fun ls hl => ?_)
  have hl : lv_has ls 4 [(0, .ref hd), (1, .int loan), (2, .int kk)] := hl
  refine lv_aload_n hx hb dD_due_0 rfl (lv_at hl 0 rfl) ?_
  refine lv_iload_n hx hb dD_due_1 rfl (lv_at hl 1 rfl) ?_
  exact kt_pass (vx_runV (C := RD) (As := [.int loan]) (rest := []) ⟨hx, hb, hml, hown, hg⟩ (c_D_findx l hlt D G hd ha cnt today g rest loan _ hix) ⟨kw_cB (n := 1) hg gw_308 gw_1 gw_306 (by decide +kernel) (by decide +kernel) ⟨Nat.le_of_ble_eq_true rfl, Nat.le_of_ble_eq_true rfl⟩ rfl rfl, hg _ gw_307, hg _ gw_737⟩ (kt_preV (q0 := 0) hK hP hD0 hE rfl rfl) rfl rfl hl.1 rfl (lv_room (Nat.le_of_ble_eq_true rfl)) dD_due_2 ⟨Nat.le_of_ble_eq_true rfl, Nat.le_of_ble_eq_true rfl⟩) hnt hlocks hK (by decide) (by decide)
abbrev rm_D_principalx : Room := { frames := 7, cells := 1, slots := 6, locals := 102 }
set_option maxRecDepth 100000 in
set_option maxHeartbeats 4000000 in
theorem c_D_principalx (l : Launch) (hlt : l.stackTraces = false) (D : va_G) (G : Nat → ClassId) (hd ha : Nat) (cnt today : Int32) (g : Nat → Option Nat) (rest : va_W) (loan : Int32) (sz : Nat) (hix : loan < 0 ∨ ¬ loan < cnt) : vx_Met l yD_principal wgD_principal rm_D_principalx (kt_Pc D vwCl (gt G) [.ref hd, .int loan] (dtl G hd ha cnt today g rest) sz) (fun _ _ _ _ => False) (kt_X D vwCl (gt G) (dtl G hd ha cnt today g rest) sz (fun E => E = eI)) 1 6 (va_A (dtl G hd ha cnt today g rest) sz) := by
  refine vx_ofW (cc := cD_principal) (maxL := 2) (ret := (some .int)) (by decide) rfl ?_
  intro p e s m args below meth c s₁ B hml hnt hv
  have hx := B.exec
  have hb := B.bytes
  have hts := atoms_spec (ws := wgD_principal) B.pre
  have hg : ∀ w ∈ GW, w.before args s = true := fun w h => hts w (List.mem_cons_of_mem _ h)
  have hown : s.vm.findClass RD = some m.cls := findClass_of_methodNamed B.named
  have hlocks := B.notSynchronized
  obtain ⟨⟨hv, hsz, hP, hK, hD0⟩, hE⟩ := hv
  subst hsz
  refine kw_entry [.ref hd, .int loan] hv (Nat.le_of_ble_eq_true rfl) (fun ls hl => ?_)
  have hl : lv_has ls 2 [(0, .ref hd), (1, .int loan)] := hl
  refine lv_aload_n hx hb dD_principal_0 rfl (lv_at hl 0 rfl) ?_
  refine lv_iload_n hx hb dD_principal_1 rfl (lv_at hl 1 rfl) ?_
  exact kt_pass (vx_runV (C := RD) (As := [.int loan]) (rest := []) ⟨hx, hb, hml, hown, hg⟩ (c_D_findx l hlt D G hd ha cnt today g rest loan _ hix) ⟨kw_cB (n := 1) hg gw_308 gw_1 gw_306 (by decide +kernel) (by decide +kernel) ⟨Nat.le_of_ble_eq_true rfl, Nat.le_of_ble_eq_true rfl⟩ rfl rfl, hg _ gw_307, hg _ gw_737⟩ (kt_preV (q0 := 0) hK hP hD0 hE rfl rfl) rfl rfl hl.1 rfl (lv_room (Nat.le_of_ble_eq_true rfl)) dD_principal_2 ⟨Nat.le_of_ble_eq_true rfl, Nat.le_of_ble_eq_true rfl⟩) hnt hlocks hK (by decide) (by decide)
abbrev rm_D_levelx : Room := { frames := 7, cells := 1, slots := 6, locals := 102 }
set_option maxRecDepth 100000 in
set_option maxHeartbeats 4000000 in
theorem c_D_levelx (l : Launch) (hlt : l.stackTraces = false) (D : va_G) (G : Nat → ClassId) (hd ha : Nat) (cnt today : Int32) (g : Nat → Option Nat) (rest : va_W) (loan : Int32) (sz : Nat) (hix : loan < 0 ∨ ¬ loan < cnt) : vx_Met l yD_level wgD_level rm_D_levelx (kt_Pc D vwCl (gt G) [.ref hd, .int loan] (dtl G hd ha cnt today g rest) sz) (fun _ _ _ _ => False) (kt_X D vwCl (gt G) (dtl G hd ha cnt today g rest) sz (fun E => E = eI)) 1 6 (va_A (dtl G hd ha cnt today g rest) sz) := by
  refine vx_ofW (cc := cD_level) (maxL := 2) (ret := (some .int)) (by decide) rfl ?_
  intro p e s m args below meth c s₁ B hml hnt hv
  have hx := B.exec
  have hb := B.bytes
  have hts := atoms_spec (ws := wgD_level) B.pre
  have hg : ∀ w ∈ GW, w.before args s = true := fun w h => hts w (List.mem_cons_of_mem _ h)
  have hown : s.vm.findClass RD = some m.cls := findClass_of_methodNamed B.named
  have hlocks := B.notSynchronized
  obtain ⟨⟨hv, hsz, hP, hK, hD0⟩, hE⟩ := hv
  subst hsz
  refine kw_entry [.ref hd, .int loan] hv (Nat.le_of_ble_eq_true rfl) (fun ls hl => ?_)
  have hl : lv_has ls 2 [(0, .ref hd), (1, .int loan)] := hl
  refine lv_aload_n hx hb dD_level_0 rfl (lv_at hl 0 rfl) ?_
  refine lv_iload_n hx hb dD_level_1 rfl (lv_at hl 1 rfl) ?_
  exact kt_pass (vx_runV (C := RD) (As := [.int loan]) (rest := []) ⟨hx, hb, hml, hown, hg⟩ (c_D_findx l hlt D G hd ha cnt today g rest loan _ hix) ⟨kw_cB (n := 1) hg gw_308 gw_1 gw_306 (by decide +kernel) (by decide +kernel) ⟨Nat.le_of_ble_eq_true rfl, Nat.le_of_ble_eq_true rfl⟩ rfl rfl, hg _ gw_307, hg _ gw_737⟩ (kt_preV (q0 := 0) hK hP hD0 hE rfl rfl) rfl rfl hl.1 rfl (lv_room (Nat.le_of_ble_eq_true rfl)) dD_level_2 ⟨Nat.le_of_ble_eq_true rfl, Nat.le_of_ble_eq_true rfl⟩) hnt hlocks hK (by decide) (by decide)
abbrev rm_D_accruedx : Room := { frames := 7, cells := 1, slots := 6, locals := 102 }
set_option maxRecDepth 100000 in
set_option maxHeartbeats 4000000 in
theorem c_D_accruedx (l : Launch) (hlt : l.stackTraces = false) (D : va_G) (G : Nat → ClassId) (hd ha : Nat) (cnt today : Int32) (g : Nat → Option Nat) (rest : va_W) (loan : Int32) (sz : Nat) (hix : loan < 0 ∨ ¬ loan < cnt) : vx_Met l yD_accrued wgD_accrued rm_D_accruedx (kt_Pc D vwCl (gt G) [.ref hd, .int loan] (dtl G hd ha cnt today g rest) sz) (fun _ _ _ _ => False) (kt_X D vwCl (gt G) (dtl G hd ha cnt today g rest) sz (fun E => E = eI)) 1 6 (va_A (dtl G hd ha cnt today g rest) sz) := by
  refine vx_ofW (cc := cD_accrued) (maxL := 2) (ret := (some .int)) (by decide) rfl ?_
  intro p e s m args below meth c s₁ B hml hnt hv
  have hx := B.exec
  have hb := B.bytes
  have hts := atoms_spec (ws := wgD_accrued) B.pre
  have hg : ∀ w ∈ GW, w.before args s = true := fun w h => hts w (List.mem_cons_of_mem _ h)
  have hown : s.vm.findClass RD = some m.cls := findClass_of_methodNamed B.named
  have hlocks := B.notSynchronized
  obtain ⟨⟨hv, hsz, hP, hK, hD0⟩, hE⟩ := hv
  subst hsz
  refine kw_entry [.ref hd, .int loan] hv (Nat.le_of_ble_eq_true rfl) (fun ls hl => ?_)
  have hl : lv_has ls 2 [(0, .ref hd), (1, .int loan)] := hl
  refine lv_aload_n hx hb dD_accrued_0 rfl (lv_at hl 0 rfl) ?_
  refine lv_iload_n hx hb dD_accrued_1 rfl (lv_at hl 1 rfl) ?_
  exact kt_pass (vx_runV (C := RD) (As := [.int loan]) (rest := []) ⟨hx, hb, hml, hown, hg⟩ (c_D_findx l hlt D G hd ha cnt today g rest loan _ hix) ⟨kw_cB (n := 1) hg gw_308 gw_1 gw_306 (by decide +kernel) (by decide +kernel) ⟨Nat.le_of_ble_eq_true rfl, Nat.le_of_ble_eq_true rfl⟩ rfl rfl, hg _ gw_307, hg _ gw_737⟩ (kt_preV (q0 := 0) hK hP hD0 hE rfl rfl) rfl rfl hl.1 rfl (lv_room (Nat.le_of_ble_eq_true rfl)) dD_accrued_2 ⟨Nat.le_of_ble_eq_true rfl, Nat.le_of_ble_eq_true rfl⟩) hnt hlocks hK (by decide) (by decide)
abbrev rm_D_owedx : Room := { frames := 7, cells := 1, slots := 6, locals := 102 }
set_option maxRecDepth 100000 in
set_option maxHeartbeats 4000000 in
theorem c_D_owedx (l : Launch) (hlt : l.stackTraces = false) (D : va_G) (G : Nat → ClassId) (hd ha : Nat) (cnt today : Int32) (g : Nat → Option Nat) (rest : va_W) (loan what : Int32) (sz : Nat) (hix : loan < 0 ∨ ¬ loan < cnt) : vx_Met l yD_owed wgD_owed rm_D_owedx (kt_Pc D vwCl (gt G) [.ref hd, .int loan, .int what] (dtl G hd ha cnt today g rest) sz) (fun _ _ _ _ => False) (kt_X D vwCl (gt G) (dtl G hd ha cnt today g rest) sz (fun E => E = eI)) 1 6 (va_A (dtl G hd ha cnt today g rest) sz) := by
  refine vx_ofW (cc := cD_owed) (maxL := 4) (ret := (some .int)) (by decide) rfl ?_
  intro p e s m args below meth c s₁ B hml hnt hv
  have hx := B.exec
  have hb := B.bytes
  have hts := atoms_spec (ws := wgD_owed) B.pre
  have hg : ∀ w ∈ GW, w.before args s = true := fun w h => hts w (List.mem_cons_of_mem _ h)
  have hown : s.vm.findClass RD = some m.cls := findClass_of_methodNamed B.named
  have hlocks := B.notSynchronized
  obtain ⟨⟨hv, hsz, hP, hK, hD0⟩, hE⟩ := hv
  subst hsz
  refine kw_entry [.ref hd, .int loan, .int what] hv (Nat.le_of_ble_eq_true rfl) (fun ls hl => ?_)
  have hl : lv_has ls 4 [(0, .ref hd), (1, .int loan), (2, .int what)] := hl
  refine lv_aload_n hx hb dD_owed_0 rfl (lv_at hl 0 rfl) ?_
  refine lv_iload_n hx hb dD_owed_1 rfl (lv_at hl 1 rfl) ?_
  exact kt_pass (vx_runV (C := RD) (As := [.int loan]) (rest := []) ⟨hx, hb, hml, hown, hg⟩ (c_D_findx l hlt D G hd ha cnt today g rest loan _ hix) ⟨kw_cB (n := 1) hg gw_308 gw_1 gw_306 (by decide +kernel) (by decide +kernel) ⟨Nat.le_of_ble_eq_true rfl, Nat.le_of_ble_eq_true rfl⟩ rfl rfl, hg _ gw_307, hg _ gw_737⟩ (kt_preV (q0 := 0) hK hP hD0 hE rfl rfl) rfl rfl hl.1 rfl (lv_room (Nat.le_of_ble_eq_true rfl)) dD_owed_2 ⟨Nat.le_of_ble_eq_true rfl, Nat.le_of_ble_eq_true rfl⟩) hnt hlocks hK (by decide) (by decide)
abbrev rm_D_escrowx : Room := { frames := 7, cells := 1, slots := 6, locals := 102 }
set_option maxRecDepth 100000 in
set_option maxHeartbeats 4000000 in
theorem c_D_escrowx (l : Launch) (hlt : l.stackTraces = false) (D : va_G) (G : Nat → ClassId) (hd ha : Nat) (cnt today : Int32) (g : Nat → Option Nat) (rest : va_W) (loan : Int32) (sz : Nat) (hix : loan < 0 ∨ ¬ loan < cnt) : vx_Met l yD_escrow wgD_escrow rm_D_escrowx (kt_Pc D vwCl (gt G) [.ref hd, .int loan] (dtl G hd ha cnt today g rest) sz) (fun _ _ _ _ => False) (kt_X D vwCl (gt G) (dtl G hd ha cnt today g rest) sz (fun E => E = eI)) 1 6 (va_A (dtl G hd ha cnt today g rest) sz) := by
  refine vx_ofW (cc := cD_escrow) (maxL := 2) (ret := (some .int)) (by decide) rfl ?_
  intro p e s m args below meth c s₁ B hml hnt hv
  have hx := B.exec
  have hb := B.bytes
  have hts := atoms_spec (ws := wgD_escrow) B.pre
  have hg : ∀ w ∈ GW, w.before args s = true := fun w h => hts w (List.mem_cons_of_mem _ h)
  have hown : s.vm.findClass RD = some m.cls := findClass_of_methodNamed B.named
  have hlocks := B.notSynchronized
  obtain ⟨⟨hv, hsz, hP, hK, hD0⟩, hE⟩ := hv
  subst hsz
  refine kw_entry [.ref hd, .int loan] hv (Nat.le_of_ble_eq_true rfl) (fun ls hl => ?_)
  have hl : lv_has ls 2 [(0, .ref hd), (1, .int loan)] := hl
  refine lv_aload_n hx hb dD_escrow_0 rfl (lv_at hl 0 rfl) ?_
  refine lv_iload_n hx hb dD_escrow_1 rfl (lv_at hl 1 rfl) ?_
  exact kt_pass (vx_runV (C := RD) (As := [.int loan]) (rest := []) ⟨hx, hb, hml, hown, hg⟩ (c_D_findx l hlt D G hd ha cnt today g rest loan _ hix) ⟨kw_cB (n := 1) hg gw_308 gw_1 gw_306 (by decide +kernel) (by decide +kernel) ⟨Nat.le_of_ble_eq_true rfl, Nat.le_of_ble_eq_true rfl⟩ rfl rfl, hg _ gw_307, hg _ gw_737⟩ (kt_preV (q0 := 0) hK hP hD0 hE rfl rfl) rfl rfl hl.1 rfl (lv_room (Nat.le_of_ble_eq_true rfl)) dD_escrow_2 ⟨Nat.le_of_ble_eq_true rfl, Nat.le_of_ble_eq_true rfl⟩) hnt hlocks hK (by decide) (by decide)
abbrev rm_D_depositx : Room := { frames := 7, cells := 1, slots := 6, locals := 102 }
set_option maxRecDepth 100000 in
set_option maxHeartbeats 4000000 in
theorem c_D_depositx (l : Launch) (hlt : l.stackTraces = false) (D : va_G) (G : Nat → ClassId) (hd ha : Nat) (cnt today : Int32) (g : Nat → Option Nat) (rest : va_W) (loan : Int32) (sz : Nat) (hix : loan < 0 ∨ ¬ loan < cnt) : vx_Met l yD_deposit wgD_deposit rm_D_depositx (kt_Pc D vwCl (gt G) [.ref hd, .int loan] (dtl G hd ha cnt today g rest) sz) (fun _ _ _ _ => False) (kt_X D vwCl (gt G) (dtl G hd ha cnt today g rest) sz (fun E => E = eI)) 1 6 (va_A (dtl G hd ha cnt today g rest) sz) := by
  refine vx_ofW (cc := cD_deposit) (maxL := 2) (ret := (some .int)) (by decide) rfl ?_
  intro p e s m args below meth c s₁ B hml hnt hv
  have hx := B.exec
  have hb := B.bytes
  have hts := atoms_spec (ws := wgD_deposit) B.pre
  have hg : ∀ w ∈ GW, w.before args s = true := fun w h => hts w (List.mem_cons_of_mem _ h)
  have hown : s.vm.findClass RD = some m.cls := findClass_of_methodNamed B.named
  have hlocks := B.notSynchronized
  obtain ⟨⟨hv, hsz, hP, hK, hD0⟩, hE⟩ := hv
  subst hsz
  refine kw_entry [.ref hd, .int loan] hv (Nat.le_of_ble_eq_true rfl) (fun ls hl => ?_)
  have hl : lv_has ls 2 [(0, .ref hd), (1, .int loan)] := hl
  refine lv_aload_n hx hb dD_deposit_0 rfl (lv_at hl 0 rfl) ?_
  refine lv_iload_n hx hb dD_deposit_1 rfl (lv_at hl 1 rfl) ?_
  exact kt_pass (vx_runV (C := RD) (As := [.int loan]) (rest := []) ⟨hx, hb, hml, hown, hg⟩ (c_D_findx l hlt D G hd ha cnt today g rest loan _ hix) ⟨kw_cB (n := 1) hg gw_308 gw_1 gw_306 (by decide +kernel) (by decide +kernel) ⟨Nat.le_of_ble_eq_true rfl, Nat.le_of_ble_eq_true rfl⟩ rfl rfl, hg _ gw_307, hg _ gw_737⟩ (kt_preV (q0 := 0) hK hP hD0 hE rfl rfl) rfl rfl hl.1 rfl (lv_room (Nat.le_of_ble_eq_true rfl)) dD_deposit_2 ⟨Nat.le_of_ble_eq_true rfl, Nat.le_of_ble_eq_true rfl⟩) hnt hlocks hK (by decide) (by decide)
abbrev rm_D_billsx : Room := { frames := 7, cells := 1, slots := 6, locals := 102 }
set_option maxRecDepth 100000 in
set_option maxHeartbeats 4000000 in
theorem c_D_billsx (l : Launch) (hlt : l.stackTraces = false) (D : va_G) (G : Nat → ClassId) (hd ha : Nat) (cnt today : Int32) (g : Nat → Option Nat) (rest : va_W) (loan : Int32) (sz : Nat) (hix : loan < 0 ∨ ¬ loan < cnt) : vx_Met l yD_bills wgD_bills rm_D_billsx (kt_Pc D vwCl (gt G) [.ref hd, .int loan] (dtl G hd ha cnt today g rest) sz) (fun _ _ _ _ => False) (kt_X D vwCl (gt G) (dtl G hd ha cnt today g rest) sz (fun E => E = eI)) 1 6 (va_A (dtl G hd ha cnt today g rest) sz) := by
  refine vx_ofW (cc := cD_bills) (maxL := 2) (ret := (some .int)) (by decide) rfl ?_
  intro p e s m args below meth c s₁ B hml hnt hv
  have hx := B.exec
  have hb := B.bytes
  have hts := atoms_spec (ws := wgD_bills) B.pre
  have hg : ∀ w ∈ GW, w.before args s = true := fun w h => hts w (List.mem_cons_of_mem _ h)
  have hown : s.vm.findClass RD = some m.cls := findClass_of_methodNamed B.named
  have hlocks := B.notSynchronized
  obtain ⟨⟨hv, hsz, hP, hK, hD0⟩, hE⟩ := hv
  subst hsz
  refine kw_entry [.ref hd, .int loan] hv (Nat.le_of_ble_eq_true rfl) (fun ls hl => ?_)
  have hl : lv_has ls 2 [(0, .ref hd), (1, .int loan)] := hl
  refine lv_aload_n hx hb dD_bills_0 rfl (lv_at hl 0 rfl) ?_
  refine lv_iload_n hx hb dD_bills_1 rfl (lv_at hl 1 rfl) ?_
  exact kt_pass (vx_runV (C := RD) (As := [.int loan]) (rest := []) ⟨hx, hb, hml, hown, hg⟩ (c_D_findx l hlt D G hd ha cnt today g rest loan _ hix) ⟨kw_cB (n := 1) hg gw_308 gw_1 gw_306 (by decide +kernel) (by decide +kernel) ⟨Nat.le_of_ble_eq_true rfl, Nat.le_of_ble_eq_true rfl⟩ rfl rfl, hg _ gw_307, hg _ gw_737⟩ (kt_preV (q0 := 0) hK hP hD0 hE rfl rfl) rfl rfl hl.1 rfl (lv_room (Nat.le_of_ble_eq_true rfl)) dD_bills_2 ⟨Nat.le_of_ble_eq_true rfl, Nat.le_of_ble_eq_true rfl⟩) hnt hlocks hK (by decide) (by decide)
abbrev rm_D_billx : Room := { frames := 7, cells := 1, slots := 6, locals := 102 }
set_option maxRecDepth 100000 in
set_option maxHeartbeats 4000000 in
theorem c_D_billx (l : Launch) (hlt : l.stackTraces = false) (D : va_G) (G : Nat → ClassId) (hd ha : Nat) (cnt today : Int32) (g : Nat → Option Nat) (rest : va_W) (loan kk what : Int32) (sz : Nat) (hix : loan < 0 ∨ ¬ loan < cnt) : vx_Met l yD_bill wgD_bill rm_D_billx (kt_Pc D vwCl (gt G) [.ref hd, .int loan, .int kk, .int what] (dtl G hd ha cnt today g rest) sz) (fun _ _ _ _ => False) (kt_X D vwCl (gt G) (dtl G hd ha cnt today g rest) sz (fun E => E = eI)) 1 6 (va_A (dtl G hd ha cnt today g rest) sz) := by
  refine vx_ofW (cc := cD_bill) (maxL := 5) (ret := (some .int)) (by decide) rfl ?_
  intro p e s m args below meth c s₁ B hml hnt hv
  have hx := B.exec
  have hb := B.bytes
  have hts := atoms_spec (ws := wgD_bill) B.pre
  have hg : ∀ w ∈ GW, w.before args s = true := fun w h => hts w (List.mem_cons_of_mem _ h)
  have hown : s.vm.findClass RD = some m.cls := findClass_of_methodNamed B.named
  have hlocks := B.notSynchronized
  obtain ⟨⟨hv, hsz, hP, hK, hD0⟩, hE⟩ := hv
  subst hsz
  refine kw_entry [.ref hd, .int loan, .int kk, .int what] hv (Nat.le_of_ble_eq_true rfl) (fun ls hl => ?_)
  have hl : lv_has ls 5 [(0, .ref hd), (1, .int loan), (2, .int kk), (3, .int what)] := hl
  refine lv_aload_n hx hb dD_bill_0 rfl (lv_at hl 0 rfl) ?_
  refine lv_iload_n hx hb dD_bill_1 rfl (lv_at hl 1 rfl) ?_
  exact kt_pass (vx_runV (C := RD) (As := [.int loan]) (rest := []) ⟨hx, hb, hml, hown, hg⟩ (c_D_findx l hlt D G hd ha cnt today g rest loan _ hix) ⟨kw_cB (n := 1) hg gw_308 gw_1 gw_306 (by decide +kernel) (by decide +kernel) ⟨Nat.le_of_ble_eq_true rfl, Nat.le_of_ble_eq_true rfl⟩ rfl rfl, hg _ gw_307, hg _ gw_737⟩ (kt_preV (q0 := 0) hK hP hD0 hE rfl rfl) rfl rfl hl.1 rfl (lv_room (Nat.le_of_ble_eq_true rfl)) dD_bill_2 ⟨Nat.le_of_ble_eq_true rfl, Nat.le_of_ble_eq_true rfl⟩) hnt hlocks hK (by decide) (by decide)
