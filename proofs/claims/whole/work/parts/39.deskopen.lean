/-! the desk: made, and a loan opened -/
theorem kw_newq {p : Program} {l : Launch} {e : Env} {R : Room} {s : State} {m : MethodId} {args : Array Value} {below : List Frame} {meth : Method} {c : Code} {H : Heap} {locs : List Loc} {cells slots : Nat} {Q : State → Prop} {cc : ByteArray} {pc : Nat} {ls : Array Slot} {rest : List Value} {D : va_G} {cl : List vw_C} {A : Nat → Prop} {tys : List (ClassId × FieldType)} {ws : va_W} {H0 : Heap} {cI : ClassId} {C : String} (t0 : Nat) (ht : tys[t0]? = some (cI, .object C))
    (hexec : p.tables.exec = Jvm.exec) (hb : c.code = cc) {own : String} {index : Nat} (hown : s.vm.findClass own = some m.cls) (hclink : (Cond.classLink own index C).before args s = true) (hover : va_AO C s) (hK : va_K D cl tys s) (hP : va_P D cl ws H) (hD : va_D A ws) (hS : va_S A H0 H locs) (hA : ∀ q, H0.size ≤ q → A q)
    {n : Int32} {N' : Nat} (hn : ¬ n < 0) (hN : n.toNatClampNeg = N') (hbytes : N' * 4 ≤ 536870912) (hcells : cells + 1 ≤ R.cells) (hslots : slots + N' ≤ R.slots) (hdg : decode cc pc = .ok (.anewarray index, 3))
    (kk : ∀ (q : Nat) (H : Heap), va_P D cl (ws ++ [(q, .inl (cI, N', .inr (.inr (.inr (.inr (fun _ => none))))))]) H → va_D A (ws ++ [(q, .inl (cI, N', .inr (.inr (.inr (.inr (fun _ => none))))))]) → va_S A H0 H locs → W p l e R s m args below meth c H locs (cells + 1) (slots + N') Q (F0 m (pc + 3) ls (.ref q :: rest))) : W p l e R s m args below meth c H locs cells slots Q (F0 m pc ls (.int n :: rest)) := by
  refine va_newq hexec hb hown hclink hover hK hP hD hS hA hn hN hbytes hcells hslots hdg (fun q cA H1 hK1 hP1 hD1 hS1 => ?_)
  have h1 : va_RA s cA (.object C) := (hK1.2 tys.length (cA, .object C) (by rw [List.getElem?_append_right (Nat.le_refl _), Nat.sub_self]; rfl)).2
  obtain ⟨_, _, _, _, _, q1⟩ := h1
  obtain ⟨_, _, _, _, _, q2⟩ := (hK.2 t0 _ ht).2
  have h2 : cA = cI := Option.some.inj (q1.symm.trans q2)
  subst h2
  exact kk q H1 hP1 hD1 hS1
abbrev wgD_init : List Cond := .code yD_init cD_init 1 none :: GW
abbrev rm_D_init : Room := { frames := 1, cells := 1, slots := 3, locals := 12 }
set_option maxRecDepth 100000 in
set_option maxHeartbeats 4000000 in
theorem c_D_init (l : Launch) (D : va_G) (G : Nat → ClassId) (h0 : Nat) (sz : Nat) : Met l yD_init wgD_init rm_D_init (fun v U => kw_Pc D vwCl (gt G) [.ref h0] [(h0, .inr (0, [.null, .int 0, .int 0]))] sz v U ∧ va_AO "LoanDesk$Loan" U) (va_Qv (fun _ : Nat => True) (fun q t => kw_B D vwCl (gt G) (dtl G h0 q 0 0 (fun _ => none) []) (va_A [(h0, .inr (0, [.null, .int 0, .int 0]))] sz) t) (va_A [(h0, .inr (0, [.null, .int 0, .int 0]))] sz)) 1 3 (va_A [(h0, .inr (0, [.null, .int 0, .int 0]))] sz) := by
  refine Met.ofW (cc := cD_init) (maxL := 1) (ret := none) (by decide) rfl ?_
  intro p e s m args below meth c s₁ B hml hv
  have hx := B.exec
  have hb := B.bytes
  have hr := B.returns
  have hts := atoms_spec (ws := wgD_init) B.pre
  have hg : ∀ w ∈ GW, w.before args s = true := fun w h => hts w (List.mem_cons_of_mem _ h)
  have hown : s.vm.findClass RD = some m.cls := findClass_of_methodNamed B.named
  have hlocks := B.notSynchronized
  have hin : meth.name = "<init>" := (name_of_methodNamed B.named B.method).1
  obtain ⟨⟨hv, hsz, hP, hK, hD0⟩, hover⟩ := hv
  subst hsz
  have hD := hD0.self (sz := s.heap.size)
  have hS : va_S (va_A [(h0, .inr (0, [.null, .int 0, .int 0]))] s.heap.size) s.heap s.heap [] := va_S.rf
  refine kw_entry [.ref h0] hv (Nat.le_of_ble_eq_true rfl) (fun ls hl => ?_)
  have hl : lv_has ls 1 [(0, .ref h0)] := hl
  refine lv_aload_n hx hb dD_init_0 rfl (lv_at hl 0 rfl) ?_
  refine W.objInit hx hb hown (hg _ gw_23) (hg _ gw_24) (hg _ gw_25) rfl (by rw [hml]; exact hl.1) rfl dD_init_1 (Nat.le_of_ble_eq_true rfl) (Nat.le_of_ble_eq_true rfl) ?_
  refine W.eq (g2 := F0 m 4 ls []) rfl ?_
  refine lv_aload_n hx hb dD_init_4 rfl (lv_at hl 0 rfl) ?_
  refine lv_iconst (v := 3) hx hb dD_init_5 (by decide) ?_
  refine kw_newq (N' := 3) (cI := G 3) (C := "LoanDesk$Loan") 3 rfl hx hb hown (hg _ gw_26) hover hK hP hD hS (fun _ h => Or.inr h) (by decide) (by decide) (by decide) (by decide) (by decide) dD_init_6 (fun q6 H hP hD hS => ?_)
  have hP : va_P D vwCl [(h0, .inr (0, [.null, .int 0, .int 0])), (q6, .inl (G 3, 3, .inr (.inr (.inr (.inr (fun _ => none))))))] H := hP
  have hD : va_D (va_A [(h0, .inr (0, [.null, .int 0, .int 0]))] s.heap.size) [(h0, .inr (0, [.null, .int 0, .int 0])), (q6, .inl (G 3, 3, .inr (.inr (.inr (.inr (fun _ => none))))))] := hD
  refine va_putF (v := .ref q6) (ty := (.array (.object "LoanDesk$Loan"))) hx hb hg hin_D tyD tyD_ok nD hown hK hP hD hS 0 rfl rfl 0 (by decide) (hg _ gw_27) (fun _ h => h) rfl hin rfl (by decide +kernel) rfl rfl (Nat.le_of_ble_eq_true rfl) dD_init_9 (fun H locs hP hD hS => ?_)
  have hP : va_P D vwCl (dtl G h0 q6 0 0 (fun _ => none) []) H := hP
  have hD : va_D (va_A [(h0, .inr (0, [.null, .int 0, .int 0]))] s.heap.size) (dtl G h0 q6 0 0 (fun _ => none) []) := hD
  refine lv_aload_n hx hb dD_init_12 rfl (lv_at hl 0 rfl) ?_
  refine lv_iconst (v := 0) hx hb dD_init_13 (by decide) ?_
  refine kw_put (w' := dtl G h0 q6 0 0 (fun _ => none) []) (v := .int 0) (ty := .int) hx hb hg hin_D tyD tyD_ok nD hown hK hP hD hS 0 rfl rfl 1 (by decide) (hg _ gw_28) (fun _ h => h) rfl (by decide +kernel) rfl rfl (Nat.le_of_ble_eq_true rfl) dD_init_14 rfl (fun H locs hP hD hS => ?_)
  refine lv_aload_n hx hb dD_init_17 rfl (lv_at hl 0 rfl) ?_
  refine lv_iconst (v := 0) hx hb dD_init_18 (by decide) ?_
  refine kw_put (w' := dtl G h0 q6 0 0 (fun _ => none) []) (v := .int 0) (ty := .int) hx hb hg hin_D tyD tyD_ok nD hown hK hP hD hS 0 rfl rfl 2 (by decide) (hg _ gw_29) (fun _ h => h) rfl (by decide +kernel) rfl rfl (Nat.le_of_ble_eq_true rfl) dD_init_19 rfl (fun H locs hP hD hS => ?_)
  exact W.vret hx hb hr (fun t ht hW => ⟨⟨q6, rfl, trivial, by rw [ht]; exact hP, va_K.moved hW.alike hK, hD⟩, hS.F ht⟩) hS.2.2 dD_init_22
def kD_made (principal rate months rule rounding steady today : Int32) : KS := mkL 0 principal 0 0 today 0 (kT_dueDay0 (mkL 0 principal 0 0 today 0 0 rate months rule rounding steady (kY_monthOf today) (kY_numberInMonth today) 0 0 0 0 (fun _ => 0) (fun _ => 0) (fun _ => 0) (fun _ => 0)) 1) rate months rule rounding steady (kY_monthOf today) (kY_numberInMonth today) 0 0 0 0 (fun _ => 0) (fun _ => 0) (fun _ => 0) (fun _ => 0)
theorem kd_room3 {cnt : Int32} (hcnt : 0 ≤ cnt.toInt) (h : cnt < 3) : vp_in cnt 3 := by
  rw [vp_in_iff]
  rw [Int32.lt_iff_toInt_lt] at h
  have : (3 : Int32).toInt = 3 := by decide
  omega
theorem kn_preS {D : va_G} {cl : List vw_C} {tys : List (ClassId × FieldType)} {As : List Value} {ws : va_W} {A : Nat → Prop} {s : State} {H : Heap} (hK : va_K D cl tys s) (hP : va_P D cl ws H) (hD : va_D A ws) (hn : kn_A s) : PreS s H (fun v U => kw_Pc D cl tys As ws H.size v U ∧ kn_A U) As :=
  ⟨fun a U g mk q => ⟨kw_blind a U g mk q.1, va_Nw.same (u := U) (U := U.calling g mk a) rfl rfl q.2.1, va_Nw.same (u := U) (U := U.calling g mk a) rfl rfl q.2.2⟩, fun _ hU hW => ⟨kw_at hK hP hD hU hW, va_Nw.warmM hW hn.1, va_Nw.warmM hW hn.2⟩⟩
def kD_open (σ : KS) (today : Int32) (cnt : Int32) (principal : Int32) (rate : Int32) (months : Int32) (rule : Int32) (rounding : Int32) (steady : Int32) : Int32 × Int32 × KS := if (kD_within principal (1 : Int32) (100000000 : Int32)) = (0 : Int32) then (1, 0, σ) else (if (kD_within rate (0 : Int32) (30000 : Int32)) = (0 : Int32) then (1, 0, σ) else (if (kD_within months (1 : Int32) (36 : Int32)) = (0 : Int32) then (1, 0, σ) else (if (kD_within rule (0 : Int32) (3 : Int32)) = (0 : Int32) then (1, 0, σ) else (if (kD_within rounding (0 : Int32) (3 : Int32)) = (0 : Int32) then (1, 0, σ) else (if cnt < (3 : Int32) then (0, cnt + 1 - 1, σ) else (2, 0, σ))))))
abbrev wgD_open : List Cond := .code yD_open cD_open 9 (some .int) :: GW
abbrev rm_D_open : Room := { frames := 6, cells := 8, slots := 321, locals := 128 }
set_option maxRecDepth 100000 in
set_option maxHeartbeats 4000000 in
theorem c_D_open (l : Launch) (hlt : l.stackTraces = false) (D : va_G) (G : Nat → ClassId) (hd ha : Nat) (cnt today : Int32) (g : Nat → Option Nat) (rest : va_W) (σ : KS) (principal : Int32) (rate : Int32) (months : Int32) (rule : Int32) (rounding : Int32) (steady : Int32) (sz : Nat) (hcnt : 0 ≤ cnt.toInt) (hst : kz_in steady) : vx_Met l yD_open wgD_open rm_D_open (kt_Pc D vwCl (gt G) [.ref hd, .int principal, .int rate, .int months, .int rule, .int rounding, .int steady] (dte G hd ha cnt today g rest σ) sz) (va_Qi (fun x (_ : Nat → Nat) => (kD_open σ today cnt principal rate months rule rounding steady).1 = 0 ∧ x = (kD_open σ today cnt principal rate months rule rounding steady).2.1) (fun u t => kw_B D vwCl (gt G) (dcl G u hd ha (cnt + 1) today (va_up g cnt.toNatClampNeg (some (u 0))) rest (kN_reckonLevel (kD_made principal rate months rule rounding steady today) today)) (va_A (dte G hd ha cnt today g rest σ) sz) t) (va_A (dte G hd ha cnt today g rest σ) sz)) (kt_X D vwCl (gt G) (dte G hd ha cnt today g rest σ) sz (fun E => (kD_open σ today cnt principal rate months rule rounding steady).1 = ecd E)) 8 321 (va_A (dte G hd ha cnt today g rest σ) sz) := by
  refine vx_ofW (cc := cD_open) (maxL := 9) (ret := (some .int)) (by decide) rfl ?_
  intro p e s m args below meth c s₁ B hml hnt hv
  have hx := B.exec
  have hb := B.bytes
  have hr := B.returns
  have hts := atoms_spec (ws := wgD_open) B.pre
  have hg : ∀ w ∈ GW, w.before args s = true := fun w h => hts w (List.mem_cons_of_mem _ h)
  have hown : s.vm.findClass RD = some m.cls := findClass_of_methodNamed B.named
  have hlocks := B.notSynchronized
  obtain ⟨⟨hv, hsz, hP, hK, hD0⟩, hE⟩ := hv
  subst hsz
  have hD := hD0.self (sz := s.heap.size)
  have hS : va_S (va_A (dte G hd ha cnt today g rest σ) s.heap.size) s.heap s.heap [] := va_S.rf
  refine kw_entry [.ref hd, .int principal, .int rate, .int months, .int rule, .int rounding, .int steady] hv (Nat.le_of_ble_eq_true rfl) (fun ls hl => ?_)
  have hl : lv_has ls 9 [(0, .ref hd), (1, .int principal), (2, .int rate), (3, .int months), (4, .int rule), (5, .int rounding), (6, .int steady)] := hl
  refine lv_iload_n hx hb dD_open_0 rfl (lv_at hl 1 rfl) ?_
  refine lv_iconst (v := 1) hx hb dD_open_1 (by decide) ?_
  refine lv_ldc (v := 100000000) hx hb hown (hg _ gw_60) dD_open_2 ?_
  refine kp_reti (va_runS (As := [.int principal, .int 1, .int 100000000]) (rest := []) ⟨hx, hb, hml, hown, hg⟩ (c_D_within l principal (1 : Int32) (100000000 : Int32)) ⟨kw_cB (n := 3) hg gw_63 gw_1 gw_61 (by decide +kernel) (by decide +kernel) ⟨Nat.le_of_ble_eq_true rfl, Nat.le_of_ble_eq_true rfl⟩ rfl rfl, hg _ gw_62⟩ kp_pre rfl rfl hl.1 rfl (lv_room (Nat.le_of_ble_eq_true rfl)) dD_open_4 ⟨Nat.le_of_ble_eq_true rfl, Nat.le_of_ble_eq_true rfl⟩) ?_
  refine lv_topi (fun r_1 e_2 => ?_)
  replace e_2 := e_2.symm
  refine lv_if_eq (tgt := 51) hx hb dD_open_7 (by decide) (fun h3 => ?_) (fun h3 => ?_)
  · skip
    have hk9 : kD_open σ today cnt principal rate months rule rounding steady = (1, 0, σ) := by subst e_2; unfold kD_open; rw [if_pos h3]
    exact kt_throw hx hb hlt hg hown hE (by decide +kernel) gw_64 gw_6 kt_gA kt_bA kt_inA kt_oA hnt hK hP hD hS (hl.1.trans hml.symm) dD_open_51 dD_open_54 dD_open_55 dD_open_58 (Nat.le_of_ble_eq_true rfl) (Nat.le_of_ble_eq_true rfl) (Nat.le_of_ble_eq_true rfl) (Nat.le_of_ble_eq_true rfl) hlocks (Nat.le_of_ble_eq_true rfl) (Nat.le_of_ble_eq_true rfl) (by rw [hk9]; exact (show (1 : Int32) = ecd eA by decide +kernel))
  · skip
    refine lv_iload_n hx hb dD_open_10 rfl (lv_at hl 2 rfl) ?_
    refine lv_iconst (v := 0) hx hb dD_open_11 (by decide) ?_
    refine lv_sipush (v := 30000) hx hb dD_open_12 (by decide) ?_
    refine kp_reti (va_runS (As := [.int rate, .int 0, .int 30000]) (rest := []) ⟨hx, hb, hml, hown, hg⟩ (c_D_within l rate (0 : Int32) (30000 : Int32)) ⟨kw_cB (n := 3) hg gw_63 gw_1 gw_61 (by decide +kernel) (by decide +kernel) ⟨Nat.le_of_ble_eq_true rfl, Nat.le_of_ble_eq_true rfl⟩ rfl rfl, hg _ gw_62⟩ kp_pre rfl rfl hl.1 rfl (lv_room (Nat.le_of_ble_eq_true rfl)) dD_open_15 ⟨Nat.le_of_ble_eq_true rfl, Nat.le_of_ble_eq_true rfl⟩) ?_
    refine lv_topi (fun r_4 e_5 => ?_)
    replace e_5 := e_5.symm
    refine lv_if_eq (tgt := 51) hx hb dD_open_18 (by decide) (fun h6 => ?_) (fun h6 => ?_)
    · skip
      have hk9 : kD_open σ today cnt principal rate months rule rounding steady = (1, 0, σ) := by subst e_2 e_5; unfold kD_open; rw [if_neg h3, if_pos h6]
      exact kt_throw hx hb hlt hg hown hE (by decide +kernel) gw_64 gw_6 kt_gA kt_bA kt_inA kt_oA hnt hK hP hD hS (hl.1.trans hml.symm) dD_open_51 dD_open_54 dD_open_55 dD_open_58 (Nat.le_of_ble_eq_true rfl) (Nat.le_of_ble_eq_true rfl) (Nat.le_of_ble_eq_true rfl) (Nat.le_of_ble_eq_true rfl) hlocks (Nat.le_of_ble_eq_true rfl) (Nat.le_of_ble_eq_true rfl) (by rw [hk9]; exact (show (1 : Int32) = ecd eA by decide +kernel))
    · skip
      refine lv_iload_n hx hb dD_open_21 rfl (lv_at hl 3 rfl) ?_
      refine lv_iconst (v := 1) hx hb dD_open_22 (by decide) ?_
      refine lv_bipush (v := 36) hx hb dD_open_23 (by decide) ?_
      refine kp_reti (va_runS (As := [.int months, .int 1, .int 36]) (rest := []) ⟨hx, hb, hml, hown, hg⟩ (c_D_within l months (1 : Int32) (36 : Int32)) ⟨kw_cB (n := 3) hg gw_63 gw_1 gw_61 (by decide +kernel) (by decide +kernel) ⟨Nat.le_of_ble_eq_true rfl, Nat.le_of_ble_eq_true rfl⟩ rfl rfl, hg _ gw_62⟩ kp_pre rfl rfl hl.1 rfl (lv_room (Nat.le_of_ble_eq_true rfl)) dD_open_25 ⟨Nat.le_of_ble_eq_true rfl, Nat.le_of_ble_eq_true rfl⟩) ?_
      refine lv_topi (fun r_7 e_8 => ?_)
      replace e_8 := e_8.symm
      refine lv_if_eq (tgt := 51) hx hb dD_open_28 (by decide) (fun h9 => ?_) (fun h9 => ?_)
      · skip
        have hk9 : kD_open σ today cnt principal rate months rule rounding steady = (1, 0, σ) := by subst e_2 e_5 e_8; unfold kD_open; rw [if_neg h3, if_neg h6, if_pos h9]
        exact kt_throw hx hb hlt hg hown hE (by decide +kernel) gw_64 gw_6 kt_gA kt_bA kt_inA kt_oA hnt hK hP hD hS (hl.1.trans hml.symm) dD_open_51 dD_open_54 dD_open_55 dD_open_58 (Nat.le_of_ble_eq_true rfl) (Nat.le_of_ble_eq_true rfl) (Nat.le_of_ble_eq_true rfl) (Nat.le_of_ble_eq_true rfl) hlocks (Nat.le_of_ble_eq_true rfl) (Nat.le_of_ble_eq_true rfl) (by rw [hk9]; exact (show (1 : Int32) = ecd eA by decide +kernel))
      · skip
        refine lv_iload hx hb dD_open_31 (lv_at hl 4 rfl) ?_
        refine lv_iconst (v := 0) hx hb dD_open_33 (by decide) ?_
        refine lv_iconst (v := 3) hx hb dD_open_34 (by decide) ?_
        refine kp_reti (va_runS (As := [.int rule, .int 0, .int 3]) (rest := []) ⟨hx, hb, hml, hown, hg⟩ (c_D_within l rule (0 : Int32) (3 : Int32)) ⟨kw_cB (n := 3) hg gw_63 gw_1 gw_61 (by decide +kernel) (by decide +kernel) ⟨Nat.le_of_ble_eq_true rfl, Nat.le_of_ble_eq_true rfl⟩ rfl rfl, hg _ gw_62⟩ kp_pre rfl rfl hl.1 rfl (lv_room (Nat.le_of_ble_eq_true rfl)) dD_open_35 ⟨Nat.le_of_ble_eq_true rfl, Nat.le_of_ble_eq_true rfl⟩) ?_
        refine lv_topi (fun r_10 e_11 => ?_)
        replace e_11 := e_11.symm
        refine lv_if_eq (tgt := 51) hx hb dD_open_38 (by decide) (fun h12 => ?_) (fun h12 => ?_)
        · skip
          have hk9 : kD_open σ today cnt principal rate months rule rounding steady = (1, 0, σ) := by subst e_2 e_5 e_8 e_11; unfold kD_open; rw [if_neg h3, if_neg h6, if_neg h9, if_pos h12]
          exact kt_throw hx hb hlt hg hown hE (by decide +kernel) gw_64 gw_6 kt_gA kt_bA kt_inA kt_oA hnt hK hP hD hS (hl.1.trans hml.symm) dD_open_51 dD_open_54 dD_open_55 dD_open_58 (Nat.le_of_ble_eq_true rfl) (Nat.le_of_ble_eq_true rfl) (Nat.le_of_ble_eq_true rfl) (Nat.le_of_ble_eq_true rfl) hlocks (Nat.le_of_ble_eq_true rfl) (Nat.le_of_ble_eq_true rfl) (by rw [hk9]; exact (show (1 : Int32) = ecd eA by decide +kernel))
        · skip
          refine lv_iload hx hb dD_open_41 (lv_at hl 5 rfl) ?_
          refine lv_iconst (v := 0) hx hb dD_open_43 (by decide) ?_
          refine lv_iconst (v := 3) hx hb dD_open_44 (by decide) ?_
          refine kp_reti (va_runS (As := [.int rounding, .int 0, .int 3]) (rest := []) ⟨hx, hb, hml, hown, hg⟩ (c_D_within l rounding (0 : Int32) (3 : Int32)) ⟨kw_cB (n := 3) hg gw_63 gw_1 gw_61 (by decide +kernel) (by decide +kernel) ⟨Nat.le_of_ble_eq_true rfl, Nat.le_of_ble_eq_true rfl⟩ rfl rfl, hg _ gw_62⟩ kp_pre rfl rfl hl.1 rfl (lv_room (Nat.le_of_ble_eq_true rfl)) dD_open_45 ⟨Nat.le_of_ble_eq_true rfl, Nat.le_of_ble_eq_true rfl⟩) ?_
          refine lv_topi (fun r_13 e_14 => ?_)
          replace e_14 := e_14.symm
          refine lv_if_ne (tgt := 59) hx hb dD_open_48 (by decide) (fun h15 => ?_) (fun h15 => ?_)
          · skip
            refine lv_aload_n hx hb dD_open_59 rfl (lv_at hl 0 rfl) ?_
            refine va_get (v := .int cnt) hx hb hg hin_D hown hK hP 0 rfl rfl 1 (by decide) (hg _ gw_28) (fun _ h => h) rfl dD_open_60 ?_
            refine lv_iconst (v := 3) hx hb dD_open_63 (by decide) ?_
            refine lv_icmp_lt (tgt := 75) hx hb dD_open_64 (by decide) (fun h16 => ?_) (fun h16 => ?_)
            · skip
              have hin3 : vp_in cnt 3 := kd_room3 hcnt h16
              refine va_new (ci := 4) (fs := [.int 0, .int 0, .int 0, .int 0, .int 0, .int 0, .int 0]) (C := RT) (T := TT) (N := 7) hx hb hg hin_T tyT tyT_ok hown (hg _ gw_132) (hg _ gw_133) (hg _ gw_8) hK hP hD hS (fun _ h => Or.inr h) rfl (fun j hj => by match j, hj with | 0, _ => rfl | 1, _ => rfl | 2, _ => rfl | 3, _ => rfl | 4, _ => rfl | 5, _ => rfl | 6, _ => rfl) (by decide) (by decide) dD_open_75 (fun q75 H hP hD hS => ?_)
              have hP : va_P D vwCl ([(q75, .inr (4, [.int 0, .int 0, .int 0, .int 0, .int 0, .int 0, .int 0]))] ++ (dtl G hd ha cnt today g rest)) H := kw_Pp hP List.perm_append_comm
              have hD : va_D (va_A (dte G hd ha cnt today g rest σ) s.heap.size) ([(q75, .inr (4, [.int 0, .int 0, .int 0, .int 0, .int 0, .int 0, .int 0]))] ++ (dtl G hd ha cnt today g rest)) := kw_Dp hD List.perm_append_comm
              refine lv_dup hx hb dD_open_78 rfl ?_
              refine lv_iload_n hx hb dD_open_79 rfl (lv_at hl 2 rfl) ?_
              refine lv_iload_n hx hb dD_open_80 rfl (lv_at hl 3 rfl) ?_
              refine lv_iload hx hb dD_open_81 (lv_at hl 4 rfl) ?_
              refine lv_iload hx hb dD_open_83 (lv_at hl 5 rfl) ?_
              refine lv_iload hx hb dD_open_85 (lv_at hl 6 rfl) ?_
              refine lv_aload_n hx hb dD_open_87 rfl (lv_at hl 0 rfl) ?_
              refine va_get (fs := [.ref ha, .int cnt, .int today]) (ci := 0) (v := .int today) hx hb hg hin_D hown hK hP 1 rfl rfl 2 (by decide) (hg _ gw_29) (fun _ h => h) rfl dD_open_88 ?_
              refine kc_retv (wc := [(q75, .inr (4, [.int 0, .int 0, .int 0, .int 0, .int 0, .int 0, .int 0]))]) (wr := dtl G hd ha cnt today g rest) (f := fun _ : Unit => [(q75, .inr (4, [.int rate, .int months, .int rule, .int rounding, .int steady, .int (kY_monthOf today), .int (kY_numberInMonth today)]))]) (va_runI (As := [.int rate, .int months, .int rule, .int rounding, .int steady, .int today]) (rest := [.ref q75]) ⟨hx, hb, hml, hown, hg⟩ (c_T_init l D G q75 rate months rule rounding steady today _ hst) ⟨kw_cB (n := 6) hg gw_136 gw_8 gw_134 (by decide +kernel) (by decide +kernel) ⟨Nat.le_of_ble_eq_true rfl, Nat.le_of_ble_eq_true rfl⟩ rfl rfl, rfl, hg _ gw_135⟩ (kw_preS hK (kw_Pl (w1 := [(q75, .inr (4, [.int 0, .int 0, .int 0, .int 0, .int 0, .int 0, .int 0]))]) (w2 := dtl G hd ha cnt today g rest) hP) (kw_Dl (w1 := [(q75, .inr (4, [.int 0, .int 0, .int 0, .int 0, .int 0, .int 0, .int 0]))]) (w2 := dtl G hd ha cnt today g rest) hD)) rfl rfl hl.1 rfl (lv_room (Nat.le_of_ble_eq_true rfl)) dD_open_91 ⟨by decide, by decide⟩) hP hD hS (fun _ h => Or.inr h) (fun _ H locs _ hP hD hS => ?_)
              refine lv_astore hx hb dD_open_94 hl (by decide) rfl (fun ls hl => ?_)
              have hl : lv_has ls 9 [(7, .ref q75), (0, .ref hd), (1, .int principal), (2, .int rate), (3, .int months), (4, .int rule), (5, .int rounding), (6, .int steady)] := hl
              refine va_new (ci := 3) (fs := [.null, .null, .null, .null, .null, .int 0, .int 0, .int 0, .int 0, .int 0, .int 0, .int 0, .null]) (C := RN) (T := TN) (N := 13) hx hb hg hin_N tyN tyN_ok hown (hg _ gw_26) (hg _ gw_167) (hg _ gw_10) hK hP hD hS (fun _ h => Or.inr h) rfl (fun j hj => by match j, hj with | 0, _ => rfl | 1, _ => rfl | 2, _ => rfl | 3, _ => rfl | 4, _ => rfl | 5, _ => rfl | 6, _ => rfl | 7, _ => rfl | 8, _ => rfl | 9, _ => rfl | 10, _ => rfl | 11, _ => rfl | 12, _ => rfl) (by decide) (by decide) dD_open_96 (fun q96 H hP hD hS => ?_)
              have hP : va_P D vwCl ([(q96, .inr (3, [.null, .null, .null, .null, .null, .int 0, .int 0, .int 0, .int 0, .int 0, .int 0, .int 0, .null]))] ++ ([(q75, .inr (4, [.int rate, .int months, .int rule, .int rounding, .int steady, .int (kY_monthOf today), .int (kY_numberInMonth today)]))] ++ (dtl G hd ha cnt today g rest))) H := kw_Pp hP List.perm_append_comm
              have hD : va_D (va_A (dte G hd ha cnt today g rest σ) s.heap.size) ([(q96, .inr (3, [.null, .null, .null, .null, .null, .int 0, .int 0, .int 0, .int 0, .int 0, .int 0, .int 0, .null]))] ++ ([(q75, .inr (4, [.int rate, .int months, .int rule, .int rounding, .int steady, .int (kY_monthOf today), .int (kY_numberInMonth today)]))] ++ (dtl G hd ha cnt today g rest))) := kw_Dp hD List.perm_append_comm
              refine lv_dup hx hb dD_open_99 rfl ?_
              refine lv_aload hx hb dD_open_100 (lv_at hl 0 rfl) ?_
              refine lv_iload_n hx hb dD_open_102 rfl (lv_at hl 2 rfl) ?_
              refine lv_aload_n hx hb dD_open_103 rfl (lv_at hl 1 rfl) ?_
              refine va_get (fs := [.ref ha, .int cnt, .int today]) (ci := 0) (v := .int today) hx hb hg hin_D hown hK hP 2 rfl rfl 2 (by decide) (hg _ gw_29) (fun _ h => h) rfl dD_open_104 ?_
              have hP : va_P D vwCl ([(q96, .inr (3, [.null, .null, .null, .null, .null, .int 0, .int 0, .int 0, .int 0, .int 0, .int 0, .int 0, .null])), (q75, .inr (4, [.int rate, .int months, .int rule, .int rounding, .int steady, .int (kY_monthOf today), .int (kY_numberInMonth today)]))] ++ dtl G hd ha cnt today g rest) H := hP
              have hD : va_D (va_A (dte G hd ha cnt today g rest σ) s.heap.size) ([(q96, .inr (3, [.null, .null, .null, .null, .null, .int 0, .int 0, .int 0, .int 0, .int 0, .int 0, .int 0, .null])), (q75, .inr (4, [.int rate, .int months, .int rule, .int rounding, .int steady, .int (kY_monthOf today), .int (kY_numberInMonth today)]))] ++ dtl G hd ha cnt today g rest) := hD
              refine kc_retv (wc := [(q96, .inr (3, [.null, .null, .null, .null, .null, .int 0, .int 0, .int 0, .int 0, .int 0, .int 0, .int 0, .null])), (q75, .inr (4, [.int rate, .int months, .int rule, .int rounding, .int steady, .int (kY_monthOf today), .int (kY_numberInMonth today)]))]) (wr := dtl G hd ha cnt today g rest) (f := fun u : Nat → Nat => lcells G u (kD_made principal rate months rule rounding steady today)) (va_runI (As := [.ref q75, .int principal, .int today]) (rest := [.ref q96]) ⟨hx, hb, hml, hown, hg⟩ (c_N_init l D G q96 q75 principal today rate months rule rounding steady (kY_monthOf today) (kY_numberInMonth today) _) ⟨kw_cB (n := 3) hg gw_170 gw_10 gw_168 (by decide +kernel) (by decide +kernel) ⟨Nat.le_of_ble_eq_true rfl, Nat.le_of_ble_eq_true rfl⟩ rfl rfl, rfl, hg _ gw_169⟩ (kn_preS hK (kw_Pl (w1 := [(q96, .inr (3, [.null, .null, .null, .null, .null, .int 0, .int 0, .int 0, .int 0, .int 0, .int 0, .int 0, .null])), (q75, .inr (4, [.int rate, .int months, .int rule, .int rounding, .int steady, .int (kY_monthOf today), .int (kY_numberInMonth today)]))]) (w2 := dtl G hd ha cnt today g rest) hP) (kw_Dl (w1 := [(q96, .inr (3, [.null, .null, .null, .null, .null, .int 0, .int 0, .int 0, .int 0, .int 0, .int 0, .int 0, .null])), (q75, .inr (4, [.int rate, .int months, .int rule, .int rounding, .int steady, .int (kY_monthOf today), .int (kY_numberInMonth today)]))]) (w2 := dtl G hd ha cnt today g rest) hD) hE.1.2) rfl rfl hl.1 rfl (lv_room (Nat.le_of_ble_eq_true rfl)) dD_open_107 ⟨by decide, by decide⟩) hP hD hS (fun _ h => Or.inr h) (fun u H locs hu hP hD hS => ?_)
              obtain ⟨hu0, hu1⟩ := hu
              have hP : va_P D vwCl (lcells G u (kD_made principal rate months rule rounding steady today) ++ dtl G hd ha cnt today g rest) H := hP
              have hD : va_D (va_A (dte G hd ha cnt today g rest σ) s.heap.size) (lcells G u (kD_made principal rate months rule rounding steady today) ++ dtl G hd ha cnt today g rest) := hD
              refine lv_astore hx hb dD_open_110 hl (by decide) rfl (fun ls hl => ?_)
              have hl : lv_has ls 9 [(8, .ref q96), (7, .ref q75), (0, .ref hd), (1, .int principal), (2, .int rate), (3, .int months), (4, .int rule), (5, .int rounding), (6, .int steady)] := hl
              rw [← hu0] at hl
              refine lv_aload hx hb dD_open_112 (lv_at hl 0 rfl) ?_
              refine lv_aload_n hx hb dD_open_114 rfl (lv_at hl 2 rfl) ?_
              refine va_get (fs := [.ref ha, .int cnt, .int today]) (ci := 0) (v := .int today) hx hb hg hin_D hown hK hP 8 rfl rfl 2 (by decide) (hg _ gw_29) (fun _ h => h) rfl dD_open_115 ?_
              refine kw_retv (wc := lcells G u (kD_made principal rate months rule rounding steady today)) (wr := dtl G hd ha cnt today g rest) (w' := lcells G u (kN_reckonLevel (kD_made principal rate months rule rounding steady today) today)) (va_runV (C := RN) (As := [.int today]) (rest := []) ⟨hx, hb, hml, hown, hg⟩ (c_N_reckonLevel l D G u (kD_made principal rate months rule rounding steady today) today _) ⟨kw_cB (n := 1) hg gw_265 gw_10 gw_262 (by decide +kernel) (by decide +kernel) ⟨Nat.le_of_ble_eq_true rfl, Nat.le_of_ble_eq_true rfl⟩ rfl rfl, hg _ gw_263, hg _ gw_264⟩ (kw_preV (q0 := 0) hK (kw_Pl (w1 := lcells G u (kD_made principal rate months rule rounding steady today)) (w2 := dtl G hd ha cnt today g rest) hP) (kw_Dl (w1 := lcells G u (kD_made principal rate months rule rounding steady today)) (w2 := dtl G hd ha cnt today g rest) hD) rfl rfl) rfl rfl hl.1 rfl (lv_room (Nat.le_of_ble_eq_true rfl)) dD_open_118 ⟨by decide, by decide⟩) hP hD hS (fun _ h => Or.inr h) (fun H locs hP hD hS => ?_)
              obtain ⟨S9, e9⟩ : ∃ z : KS, (kN_reckonLevel (kD_made principal rate months rule rounding steady today) today) = z := ⟨_, rfl⟩
              rw [e9] at hP hD
              refine lv_aload_n hx hb dD_open_121 rfl (lv_at hl 2 rfl) ?_
              refine va_get (v := .ref ha) hx hb hg hin_D hown hK hP 8 rfl rfl 0 (by decide) (hg _ gw_27) (fun _ h => h) rfl dD_open_122 ?_
              refine lv_aload_n hx hb dD_open_125 rfl (lv_at hl 2 rfl) ?_
              refine va_get (v := .int cnt) hx hb hg hin_D hown hK hP 8 rfl rfl 1 (by decide) (hg _ gw_28) (fun _ h => h) rfl dD_open_126 ?_
              refine lv_aload hx hb dD_open_129 (lv_at hl 0 rfl) ?_
              refine va_astq (r := (RN, TN, 13)) hx hb hK hP hD hS 9 3 0 3 rfl rfl rfl rfl hin3 dD_open_131 (fun H locs hP hD hS => ?_)
              have hP : va_P D vwCl (lcells G u S9 ++ dtl G hd ha cnt today (va_up g cnt.toNatClampNeg (some (u 0))) rest) H := hP
              have hD : va_D (va_A (dte G hd ha cnt today g rest σ) s.heap.size) (lcells G u S9 ++ dtl G hd ha cnt today (va_up g cnt.toNatClampNeg (some (u 0))) rest) := hD
              refine lv_aload_n hx hb dD_open_132 rfl (lv_at hl 2 rfl) ?_
              refine lv_dup hx hb dD_open_133 rfl ?_
              refine va_get (v := .int cnt) hx hb hg hin_D hown hK hP 8 rfl rfl 1 (by decide) (hg _ gw_28) (fun _ h => h) rfl dD_open_134 ?_
              refine lv_iconst (v := 1) hx hb dD_open_137 (by decide) ?_
              refine lv_iadd hx hb dD_open_138 ?_
              refine kw_put (w' := dcl G u hd ha (cnt + 1) today (va_up g cnt.toNatClampNeg (some (u 0))) rest S9) (v := .int (cnt + 1)) (ty := .int) hx hb hg hin_D tyD tyD_ok nD hown hK hP hD hS 8 rfl rfl 1 (by decide) (hg _ gw_28) (fun _ h => h) rfl (by decide +kernel) rfl rfl (Nat.le_of_ble_eq_true rfl) dD_open_139 rfl (fun H locs hP hD hS => ?_)
              refine lv_aload_n hx hb dD_open_142 rfl (lv_at hl 2 rfl) ?_
              refine va_get (v := .int (cnt + 1)) hx hb hg hin_D hown hK hP 8 rfl rfl 1 (by decide) (hg _ gw_28) (fun _ h => h) rfl dD_open_143 ?_
              refine lv_iconst (v := 1) hx hb dD_open_146 (by decide) ?_
              refine lv_isub hx hb dD_open_147 ?_
              have hk9 : kD_open σ today cnt principal rate months rule rounding steady = (0, cnt + 1 - 1, σ) := by subst e_2 e_5 e_8 e_11 e_14; unfold kD_open; rw [if_neg h3, if_neg h6, if_neg h9, if_neg h12, if_neg h15, if_pos h16]
              subst e9
              exact vx_ret (W.iret hx hb hr (fun t ht hW => ⟨⟨_, u, rfl, ⟨by rw [hk9], by rw [hk9]⟩, by rw [ht]; exact hP, va_K.moved hW.alike hK, hD⟩, hS.F ht⟩) hS.2.2 dD_open_148)
            · skip
              have hk9 : kD_open σ today cnt principal rate months rule rounding steady = (2, 0, σ) := by subst e_2 e_5 e_8 e_11 e_14; unfold kD_open; rw [if_neg h3, if_neg h6, if_neg h9, if_neg h12, if_neg h15, if_neg h16]
              exact kt_throw hx hb hlt hg hown hE (by decide +kernel) gw_118 gw_7 kt_gS kt_bS kt_inS kt_oS hnt hK hP hD hS (hl.1.trans hml.symm) dD_open_67 dD_open_70 dD_open_71 dD_open_74 (Nat.le_of_ble_eq_true rfl) (Nat.le_of_ble_eq_true rfl) (Nat.le_of_ble_eq_true rfl) (Nat.le_of_ble_eq_true rfl) hlocks (Nat.le_of_ble_eq_true rfl) (Nat.le_of_ble_eq_true rfl) (by rw [hk9]; exact (show (2 : Int32) = ecd eS by decide +kernel))
          · skip
            have hk9 : kD_open σ today cnt principal rate months rule rounding steady = (1, 0, σ) := by subst e_2 e_5 e_8 e_11 e_14; unfold kD_open; rw [if_neg h3, if_neg h6, if_neg h9, if_neg h12, if_pos h15]
            exact kt_throw hx hb hlt hg hown hE (by decide +kernel) gw_64 gw_6 kt_gA kt_bA kt_inA kt_oA hnt hK hP hD hS (hl.1.trans hml.symm) dD_open_51 dD_open_54 dD_open_55 dD_open_58 (Nat.le_of_ble_eq_true rfl) (Nat.le_of_ble_eq_true rfl) (Nat.le_of_ble_eq_true rfl) (Nat.le_of_ble_eq_true rfl) hlocks (Nat.le_of_ble_eq_true rfl) (Nat.le_of_ble_eq_true rfl) (by rw [hk9]; exact (show (1 : Int32) = ecd eA by decide +kernel))
