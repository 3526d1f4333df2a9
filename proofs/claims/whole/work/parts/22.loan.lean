/-! a loan's methods -/
def kT_dueDay (σ : KS) (kk : Int32) : Int32 := kmin (((kY_firstDayOf ((σ 0 15) + kk)) + (σ 0 16)) - 1) ((kY_firstDayOf (((σ 0 15) + kk) + 1)) - 1)
abbrev wgT_dueDay : List Cond := .code yT_dueDay cT_dueDay 4 (some .int) :: GW
abbrev rm_T_dueDay : Room := { frames := 1, cells := 0, slots := 0, locals := 23 }
set_option maxRecDepth 100000 in
set_option maxHeartbeats 4000000 in
theorem c_T_dueDay (l : Launch) (D : va_G) (G : Nat → ClassId) (a : Nat → Nat) (σ : KS) (kk : Int32) (sz : Nat)  : Met l yT_dueDay wgT_dueDay rm_T_dueDay (kw_Pc D vwCl (gt G) [.ref (a 1), .int kk] (lcells G a σ) sz) (kw_i D vwCl (gt G) (lcells G a σ) sz (kT_dueDay σ kk) (lcells G a σ)) 0 0 (va_A (lcells G a σ) sz) := by
  refine Met.ofW (cc := cT_dueDay) (maxL := 4) (ret := (some .int)) (by decide) rfl ?_
  intro p e s m args below meth c s₁ B hml hv
  have hx := B.exec
  have hb := B.bytes
  have hr := B.returns
  have hts := atoms_spec (ws := wgT_dueDay) B.pre
  have hg : ∀ w ∈ GW, w.before args s = true := fun w h => hts w (List.mem_cons_of_mem _ h)
  have hown : s.vm.findClass RT = some m.cls := findClass_of_methodNamed B.named
  have hlocks := B.notSynchronized
  obtain ⟨hv, hsz, hP, hK, hD0⟩ := hv
  subst hsz
  have hD := hD0.self (sz := s.heap.size)
  have hS : va_S (va_A (lcells G a σ) s.heap.size) s.heap s.heap [] := va_S.rf
  refine kw_entry [.ref (a 1), .int kk] hv (Nat.le_of_ble_eq_true rfl) (fun ls hl => ?_)
  have hl : lv_has ls 4 [(0, .ref (a 1)), (1, .int kk)] := hl
  refine lv_aload_n hx hb dT_dueDay_0 rfl (lv_at hl 0 rfl) ?_
  refine va_get (v := .int (σ 0 15)) hx hb hg hin_T hown hK hP 1 rfl rfl 5 (by decide) (hg _ gw_150) (fun _ h => h) rfl dT_dueDay_1 ?_
  refine lv_iload_n hx hb dT_dueDay_4 rfl (lv_at hl 1 rfl) ?_
  refine lv_iadd hx hb dT_dueDay_5 ?_
  refine kp_reti (va_runS (As := [.int ((σ 0 15) + kk)]) (rest := []) ⟨hx, hb, hml, hown, hg⟩ (c_Y_firstDayOf l ((σ 0 15) + kk)) ⟨kw_cB (n := 1) hg gw_50 gw_9 gw_210 (by decide +kernel) (by decide +kernel) ⟨Nat.le_of_ble_eq_true rfl, Nat.le_of_ble_eq_true rfl⟩ rfl rfl, hg _ gw_49⟩ kp_pre rfl rfl hl.1 rfl (lv_room (Nat.le_of_ble_eq_true rfl)) dT_dueDay_6 ⟨Nat.le_of_ble_eq_true rfl, Nat.le_of_ble_eq_true rfl⟩) ?_
  refine lv_topi (fun r_1 e_2 => ?_)
  replace e_2 := e_2.symm
  refine lv_istore_n hx hb dT_dueDay_9 rfl hl (by decide) rfl (fun ls hl => ?_)
  have hl : lv_has ls 4 [(2, .int r_1), (0, .ref (a 1)), (1, .int kk)] := hl
  refine lv_aload_n hx hb dT_dueDay_10 rfl (lv_at hl 1 rfl) ?_
  refine va_get (v := .int (σ 0 15)) hx hb hg hin_T hown hK hP 1 rfl rfl 5 (by decide) (hg _ gw_150) (fun _ h => h) rfl dT_dueDay_11 ?_
  refine lv_iload_n hx hb dT_dueDay_14 rfl (lv_at hl 2 rfl) ?_
  refine lv_iadd hx hb dT_dueDay_15 ?_
  refine lv_iconst (v := 1) hx hb dT_dueDay_16 (by decide) ?_
  refine lv_iadd hx hb dT_dueDay_17 ?_
  refine kp_reti (va_runS (As := [.int (((σ 0 15) + kk) + 1)]) (rest := []) ⟨hx, hb, hml, hown, hg⟩ (c_Y_firstDayOf l (((σ 0 15) + kk) + 1)) ⟨kw_cB (n := 1) hg gw_50 gw_9 gw_210 (by decide +kernel) (by decide +kernel) ⟨Nat.le_of_ble_eq_true rfl, Nat.le_of_ble_eq_true rfl⟩ rfl rfl, hg _ gw_49⟩ kp_pre rfl rfl hl.1 rfl (lv_room (Nat.le_of_ble_eq_true rfl)) dT_dueDay_18 ⟨Nat.le_of_ble_eq_true rfl, Nat.le_of_ble_eq_true rfl⟩) ?_
  refine lv_topi (fun r_3 e_4 => ?_)
  replace e_4 := e_4.symm
  refine lv_iconst (v := 1) hx hb dT_dueDay_21 (by decide) ?_
  refine lv_isub hx hb dT_dueDay_22 ?_
  refine lv_istore_n hx hb dT_dueDay_23 rfl hl (by decide) rfl (fun ls hl => ?_)
  have hl : lv_has ls 4 [(3, .int (r_3 - 1)), (2, .int r_1), (0, .ref (a 1)), (1, .int kk)] := hl
  refine lv_iload_n hx hb dT_dueDay_24 rfl (lv_at hl 1 rfl) ?_
  refine lv_aload_n hx hb dT_dueDay_25 rfl (lv_at hl 2 rfl) ?_
  refine va_get (v := .int (σ 0 16)) hx hb hg hin_T hown hK hP 1 rfl rfl 6 (by decide) (hg _ gw_151) (fun _ h => h) rfl dT_dueDay_26 ?_
  refine lv_iadd hx hb dT_dueDay_29 ?_
  refine lv_iconst (v := 1) hx hb dT_dueDay_30 (by decide) ?_
  refine lv_isub hx hb dT_dueDay_31 ?_
  refine lv_iload_n hx hb dT_dueDay_32 rfl (lv_at hl 0 rfl) ?_
  refine kw_mmin hx hb (hml.trans hl.1.symm) hown (hg _ gw_211) (hg _ gw_212) (hg _ gw_13) (hg _ gw_213) (Nat.le_of_ble_eq_true rfl) (Nat.le_of_ble_eq_true rfl) (Nat.zero_le _) (Nat.zero_le _) dT_dueDay_33 ?_
  have hk9 : kT_dueDay σ kk = kmin ((r_1 + (σ 0 16)) - 1) (r_3 - 1) := by subst e_2 e_4; rfl
  exact kw_iret hx hb hr hlocks hK hP hD hS ⟨hk9.symm, rfl⟩ dT_dueDay_36
def kA_agreeOn (σ : KS) (charge : Int32) : KS := mkL (σ 0 0) (σ 0 1) (σ 0 2) (σ 0 3) (σ 0 4) (σ 0 5) (σ 0 6) (σ 0 10) (σ 0 11) (σ 0 12) (σ 0 13) (σ 0 14) (σ 0 15) (σ 0 16) (σ 0 20) (kC_twelfth charge) charge (σ 0 30) (σ 1) (σ 2) (σ 3) (σ 4)
abbrev wgA_agreeOn : List Cond := .code yA_agreeOn cA_agreeOn 2 none :: GW
abbrev rm_A_agreeOn : Room := { frames := 1, cells := 0, slots := 0, locals := 20 }
set_option maxRecDepth 100000 in
set_option maxHeartbeats 4000000 in
theorem c_A_agreeOn (l : Launch) (D : va_G) (G : Nat → ClassId) (a : Nat → Nat) (σ : KS) (charge : Int32) (sz : Nat)  : Met l yA_agreeOn wgA_agreeOn rm_A_agreeOn (kw_Pc D vwCl (gt G) [.ref (a 2), .int charge] (lcells G a σ) sz) (kw_v D vwCl (gt G) (lcells G a σ) sz (lcells G a (kA_agreeOn σ charge))) 0 0 (va_A (lcells G a σ) sz) := by
  refine Met.ofW (cc := cA_agreeOn) (maxL := 2) (ret := none) (by decide) rfl ?_
  intro p e s m args below meth c s₁ B hml hv
  have hx := B.exec
  have hb := B.bytes
  have hr := B.returns
  have hts := atoms_spec (ws := wgA_agreeOn) B.pre
  have hg : ∀ w ∈ GW, w.before args s = true := fun w h => hts w (List.mem_cons_of_mem _ h)
  have hown : s.vm.findClass RA = some m.cls := findClass_of_methodNamed B.named
  have hlocks := B.notSynchronized
  obtain ⟨hv, hsz, hP, hK, hD0⟩ := hv
  subst hsz
  have hD := hD0.self (sz := s.heap.size)
  have hS : va_S (va_A (lcells G a σ) s.heap.size) s.heap s.heap [] := va_S.rf
  refine kw_entry [.ref (a 2), .int charge] hv (Nat.le_of_ble_eq_true rfl) (fun ls hl => ?_)
  have hl : lv_has ls 2 [(0, .ref (a 2)), (1, .int charge)] := hl
  refine lv_aload_n hx hb dA_agreeOn_0 rfl (lv_at hl 0 rfl) ?_
  refine lv_iload_n hx hb dA_agreeOn_1 rfl (lv_at hl 1 rfl) ?_
  refine kw_put (w' := lc G a (σ 0 0) (σ 0 1) (σ 0 2) (σ 0 3) (σ 0 4) (σ 0 5) (σ 0 6) (σ 0 10) (σ 0 11) (σ 0 12) (σ 0 13) (σ 0 14) (σ 0 15) (σ 0 16) (σ 0 20) (σ 0 21) charge (σ 0 30) (σ 1) (σ 2) (σ 3) (σ 4)) (v := .int charge) (ty := .int) hx hb hg hin_A tyA tyA_ok nA hown hK hP hD hS 2 rfl rfl 2 (by decide) (hg _ gw_183) (fun _ h => h) rfl (by decide +kernel) rfl rfl (Nat.le_of_ble_eq_true rfl) dA_agreeOn_2 rfl (fun H locs hP hD hS => ?_)
  refine lv_aload_n hx hb dA_agreeOn_5 rfl (lv_at hl 0 rfl) ?_
  refine lv_iload_n hx hb dA_agreeOn_6 rfl (lv_at hl 1 rfl) ?_
  refine kp_reti (va_runS (As := [.int charge]) (rest := [.ref (a 2)]) ⟨hx, hb, hml, hown, hg⟩ (c_C_twelfth l charge) ⟨kw_cB (n := 1) hg gw_330 gw_15 gw_328 (by decide +kernel) (by decide +kernel) ⟨Nat.le_of_ble_eq_true rfl, Nat.le_of_ble_eq_true rfl⟩ rfl rfl, hg _ gw_329⟩ kp_pre rfl rfl hl.1 rfl (lv_room (Nat.le_of_ble_eq_true rfl)) dA_agreeOn_7 ⟨Nat.le_of_ble_eq_true rfl, Nat.le_of_ble_eq_true rfl⟩) ?_
  refine lv_topi (fun r_1 e_2 => ?_)
  replace e_2 := e_2.symm
  refine kw_put (w' := lc G a (σ 0 0) (σ 0 1) (σ 0 2) (σ 0 3) (σ 0 4) (σ 0 5) (σ 0 6) (σ 0 10) (σ 0 11) (σ 0 12) (σ 0 13) (σ 0 14) (σ 0 15) (σ 0 16) (σ 0 20) r_1 charge (σ 0 30) (σ 1) (σ 2) (σ 3) (σ 4)) (v := .int r_1) (ty := .int) hx hb hg hin_A tyA tyA_ok nA hown hK hP hD hS 2 rfl rfl 1 (by decide) (hg _ gw_180) (fun _ h => h) rfl (by decide +kernel) rfl rfl (Nat.le_of_ble_eq_true rfl) dA_agreeOn_10 rfl (fun H locs hP hD hS => ?_)
  have hk9 : kA_agreeOn σ charge = mkL (σ 0 0) (σ 0 1) (σ 0 2) (σ 0 3) (σ 0 4) (σ 0 5) (σ 0 6) (σ 0 10) (σ 0 11) (σ 0 12) (σ 0 13) (σ 0 14) (σ 0 15) (σ 0 16) (σ 0 20) r_1 charge (σ 0 30) (σ 1) (σ 2) (σ 3) (σ 4) := by subst e_2; rfl
  exact kw_vret hx hb hr hlocks hK hP hD hS (kw_fin1 (f := lcells G a) (S := mkL (σ 0 0) (σ 0 1) (σ 0 2) (σ 0 3) (σ 0 4) (σ 0 5) (σ 0 6) (σ 0 10) (σ 0 11) (σ 0 12) (σ 0 13) (σ 0 14) (σ 0 15) (σ 0 16) (σ 0 20) r_1 charge (σ 0 30) (σ 1) (σ 2) (σ 3) (σ 4)) rfl hk9) dA_agreeOn_13
def kA_payCharge (σ : KS) : KS := mkL (σ 0 0) (σ 0 1) (σ 0 2) (σ 0 3) (σ 0 4) (σ 0 5) (σ 0 6) (σ 0 10) (σ 0 11) (σ 0 12) (σ 0 13) (σ 0 14) (σ 0 15) (σ 0 16) ((σ 0 20) - (σ 0 22)) (kC_twelfth ((σ 0 22) + (kmax (0 : Int32) (-((σ 0 20) - (σ 0 22)))))) (σ 0 22) (σ 0 30) (σ 1) (σ 2) (σ 3) (σ 4)
abbrev wgA_payCharge : List Cond := .code yA_payCharge cA_payCharge 1 none :: GW
abbrev rm_A_payCharge : Room := { frames := 1, cells := 0, slots := 0, locals := 20 }
set_option maxRecDepth 100000 in
set_option maxHeartbeats 4000000 in
theorem c_A_payCharge (l : Launch) (D : va_G) (G : Nat → ClassId) (a : Nat → Nat) (σ : KS)  (sz : Nat)  : Met l yA_payCharge wgA_payCharge rm_A_payCharge (kw_Pc D vwCl (gt G) [.ref (a 2)] (lcells G a σ) sz) (kw_v D vwCl (gt G) (lcells G a σ) sz (lcells G a (kA_payCharge σ))) 0 0 (va_A (lcells G a σ) sz) := by
  refine Met.ofW (cc := cA_payCharge) (maxL := 1) (ret := none) (by decide) rfl ?_
  intro p e s m args below meth c s₁ B hml hv
  have hx := B.exec
  have hb := B.bytes
  have hr := B.returns
  have hts := atoms_spec (ws := wgA_payCharge) B.pre
  have hg : ∀ w ∈ GW, w.before args s = true := fun w h => hts w (List.mem_cons_of_mem _ h)
  have hown : s.vm.findClass RA = some m.cls := findClass_of_methodNamed B.named
  have hlocks := B.notSynchronized
  obtain ⟨hv, hsz, hP, hK, hD0⟩ := hv
  subst hsz
  have hD := hD0.self (sz := s.heap.size)
  have hS : va_S (va_A (lcells G a σ) s.heap.size) s.heap s.heap [] := va_S.rf
  refine kw_entry [.ref (a 2)] hv (Nat.le_of_ble_eq_true rfl) (fun ls hl => ?_)
  have hl : lv_has ls 1 [(0, .ref (a 2))] := hl
  refine lv_aload_n hx hb dA_payCharge_0 rfl (lv_at hl 0 rfl) ?_
  refine lv_dup hx hb dA_payCharge_1 rfl ?_
  refine va_get (v := .int (σ 0 20)) hx hb hg hin_A hown hK hP 2 rfl rfl 0 (by decide) (hg _ gw_177) (fun _ h => h) rfl dA_payCharge_2 ?_
  refine lv_aload_n hx hb dA_payCharge_5 rfl (lv_at hl 0 rfl) ?_
  refine va_get (v := .int (σ 0 22)) hx hb hg hin_A hown hK hP 2 rfl rfl 2 (by decide) (hg _ gw_183) (fun _ h => h) rfl dA_payCharge_6 ?_
  refine lv_isub hx hb dA_payCharge_9 ?_
  refine kw_put (w' := lc G a (σ 0 0) (σ 0 1) (σ 0 2) (σ 0 3) (σ 0 4) (σ 0 5) (σ 0 6) (σ 0 10) (σ 0 11) (σ 0 12) (σ 0 13) (σ 0 14) (σ 0 15) (σ 0 16) ((σ 0 20) - (σ 0 22)) (σ 0 21) (σ 0 22) (σ 0 30) (σ 1) (σ 2) (σ 3) (σ 4)) (v := .int ((σ 0 20) - (σ 0 22))) (ty := .int) hx hb hg hin_A tyA tyA_ok nA hown hK hP hD hS 2 rfl rfl 0 (by decide) (hg _ gw_177) (fun _ h => h) rfl (by decide +kernel) rfl rfl (Nat.le_of_ble_eq_true rfl) dA_payCharge_10 rfl (fun H locs hP hD hS => ?_)
  refine lv_aload_n hx hb dA_payCharge_13 rfl (lv_at hl 0 rfl) ?_
  refine lv_aload_n hx hb dA_payCharge_14 rfl (lv_at hl 0 rfl) ?_
  refine va_get (v := .int (σ 0 22)) hx hb hg hin_A hown hK hP 2 rfl rfl 2 (by decide) (hg _ gw_183) (fun _ h => h) rfl dA_payCharge_15 ?_
  refine lv_iconst (v := 0) hx hb dA_payCharge_18 (by decide) ?_
  refine lv_aload_n hx hb dA_payCharge_19 rfl (lv_at hl 0 rfl) ?_
  refine va_get (v := .int ((σ 0 20) - (σ 0 22))) hx hb hg hin_A hown hK hP 2 rfl rfl 0 (by decide) (hg _ gw_177) (fun _ h => h) rfl dA_payCharge_20 ?_
  refine lv_ineg hx hb dA_payCharge_23 ?_
  refine kw_mmax hx hb (hml.trans hl.1.symm) hown (hg _ gw_355) (hg _ gw_356) (hg _ gw_13) (hg _ gw_357) (Nat.le_of_ble_eq_true rfl) (Nat.le_of_ble_eq_true rfl) (Nat.zero_le _) (Nat.zero_le _) dA_payCharge_24 ?_
  refine lv_iadd hx hb dA_payCharge_27 ?_
  refine kp_reti (va_runS (As := [.int ((σ 0 22) + (kmax (0 : Int32) (-((σ 0 20) - (σ 0 22)))))]) (rest := [.ref (a 2)]) ⟨hx, hb, hml, hown, hg⟩ (c_C_twelfth l ((σ 0 22) + (kmax (0 : Int32) (-((σ 0 20) - (σ 0 22)))))) ⟨kw_cB (n := 1) hg gw_330 gw_15 gw_328 (by decide +kernel) (by decide +kernel) ⟨Nat.le_of_ble_eq_true rfl, Nat.le_of_ble_eq_true rfl⟩ rfl rfl, hg _ gw_329⟩ kp_pre rfl rfl hl.1 rfl (lv_room (Nat.le_of_ble_eq_true rfl)) dA_payCharge_28 ⟨Nat.le_of_ble_eq_true rfl, Nat.le_of_ble_eq_true rfl⟩) ?_
  refine lv_topi (fun r_1 e_2 => ?_)
  replace e_2 := e_2.symm
  refine kw_put (w' := lc G a (σ 0 0) (σ 0 1) (σ 0 2) (σ 0 3) (σ 0 4) (σ 0 5) (σ 0 6) (σ 0 10) (σ 0 11) (σ 0 12) (σ 0 13) (σ 0 14) (σ 0 15) (σ 0 16) ((σ 0 20) - (σ 0 22)) r_1 (σ 0 22) (σ 0 30) (σ 1) (σ 2) (σ 3) (σ 4)) (v := .int r_1) (ty := .int) hx hb hg hin_A tyA tyA_ok nA hown hK hP hD hS 2 rfl rfl 1 (by decide) (hg _ gw_180) (fun _ h => h) rfl (by decide +kernel) rfl rfl (Nat.le_of_ble_eq_true rfl) dA_payCharge_31 rfl (fun H locs hP hD hS => ?_)
  have hk9 : kA_payCharge σ = mkL (σ 0 0) (σ 0 1) (σ 0 2) (σ 0 3) (σ 0 4) (σ 0 5) (σ 0 6) (σ 0 10) (σ 0 11) (σ 0 12) (σ 0 13) (σ 0 14) (σ 0 15) (σ 0 16) ((σ 0 20) - (σ 0 22)) r_1 (σ 0 22) (σ 0 30) (σ 1) (σ 2) (σ 3) (σ 4) := by subst e_2; rfl
  exact kw_vret hx hb hr hlocks hK hP hD hS (kw_fin1 (f := lcells G a) (S := mkL (σ 0 0) (σ 0 1) (σ 0 2) (σ 0 3) (σ 0 4) (σ 0 5) (σ 0 6) (σ 0 10) (σ 0 11) (σ 0 12) (σ 0 13) (σ 0 14) (σ 0 15) (σ 0 16) ((σ 0 20) - (σ 0 22)) r_1 (σ 0 22) (σ 0 30) (σ 1) (σ 2) (σ 3) (σ 4)) rfl hk9) dA_payCharge_34
def kB_add (σ : KS) (day : Int32) (principal : Int32) (interest : Int32) (part : Int32) (deposit : Int32) : KS := if (σ 0 30) < (50 : Int32) then (mkL (σ 0 0) (σ 0 1) (σ 0 2) (σ 0 3) (σ 0 4) (σ 0 5) (σ 0 6) (σ 0 10) (σ 0 11) (σ 0 12) (σ 0 13) (σ 0 14) (σ 0 15) (σ 0 16) (σ 0 20) (σ 0 21) (σ 0 22) ((σ 0 30) + 1) (σ 1) (σ 2) (σ 3) (upd (upd (upd (upd (upd (σ 4) (((σ 0 30) * 5).toNatClampNeg) day) ((((σ 0 30) * 5) + 1).toNatClampNeg) principal) ((((σ 0 30) * 5) + 2).toNatClampNeg) interest) ((((σ 0 30) * 5) + 3).toNatClampNeg) part) ((((σ 0 30) * 5) + 4).toNatClampNeg) deposit)) else σ
abbrev wgB_add : List Cond := .code yB_add cB_add 7 none :: GW
abbrev rm_B_add : Room := { frames := 0, cells := 0, slots := 0, locals := 0 }
set_option maxRecDepth 100000 in
set_option maxHeartbeats 4000000 in
theorem c_B_add (l : Launch) (D : va_G) (G : Nat → ClassId) (a : Nat → Nat) (σ : KS) (day : Int32) (principal : Int32) (interest : Int32) (part : Int32) (deposit : Int32) (sz : Nat) (cn : Nat) (hcn : σ 0 30 = nI cn) (hcl : cn ≤ 50) : Met l yB_add wgB_add rm_B_add (kw_Pc D vwCl (gt G) [.ref (a 3), .int day, .int principal, .int interest, .int part, .int deposit] (lcells G a σ) sz) (kw_v D vwCl (gt G) (lcells G a σ) sz (lcells G a (kB_add σ day principal interest part deposit))) 0 0 (va_A (lcells G a σ) sz) := by
  refine Met.ofW (cc := cB_add) (maxL := 7) (ret := none) (by decide) rfl ?_
  intro p e s m args below meth c s₁ B hml hv
  have hx := B.exec
  have hb := B.bytes
  have hr := B.returns
  have hts := atoms_spec (ws := wgB_add) B.pre
  have hg : ∀ w ∈ GW, w.before args s = true := fun w h => hts w (List.mem_cons_of_mem _ h)
  have hown : s.vm.findClass RB = some m.cls := findClass_of_methodNamed B.named
  have hlocks := B.notSynchronized
  obtain ⟨hv, hsz, hP, hK, hD0⟩ := hv
  subst hsz
  have hD := hD0.self (sz := s.heap.size)
  have hS : va_S (va_A (lcells G a σ) s.heap.size) s.heap s.heap [] := va_S.rf
  refine kw_entry [.ref (a 3), .int day, .int principal, .int interest, .int part, .int deposit] hv (Nat.le_of_ble_eq_true rfl) (fun ls hl => ?_)
  have hl : lv_has ls 7 [(0, .ref (a 3)), (1, .int day), (2, .int principal), (3, .int interest), (4, .int part), (5, .int deposit)] := hl
  refine lv_aload_n hx hb dB_add_0 rfl (lv_at hl 0 rfl) ?_
  refine va_get (v := .int (σ 0 30)) hx hb hg hin_B hown hK hP 3 rfl rfl 1 (by decide) (hg _ gw_198) (fun _ h => h) rfl dB_add_1 ?_
  refine lv_bipush (v := 50) hx hb dB_add_4 (by decide) ?_
  refine lv_icmp_lt (tgt := 10) hx hb dB_add_6 (by decide) (fun h1 => ?_) (fun h1 => ?_)
  · skip
    refine lv_aload_n hx hb dB_add_10 rfl (lv_at hl 0 rfl) ?_
    refine va_get (v := .int (σ 0 30)) hx hb hg hin_B hown hK hP 3 rfl rfl 1 (by decide) (hg _ gw_198) (fun _ h => h) rfl dB_add_11 ?_
    refine lv_iconst (v := 5) hx hb dB_add_14 (by decide) ?_
    refine lv_imul hx hb dB_add_15 ?_
    refine lv_istore hx hb dB_add_16 hl (by decide) rfl (fun ls hl => ?_)
    have hl : lv_has ls 7 [(6, .int ((σ 0 30) * 5)), (0, .ref (a 3)), (1, .int day), (2, .int principal), (3, .int interest), (4, .int part), (5, .int deposit)] := hl
    refine lv_aload_n hx hb dB_add_18 rfl (lv_at hl 1 rfl) ?_
    refine va_get (v := .ref (a 7)) hx hb hg hin_B hown hK hP 3 rfl rfl 0 (by decide) (hg _ gw_196) (fun _ h => h) rfl dB_add_19 ?_
    refine lv_iload hx hb dB_add_22 (lv_at hl 0 rfl) ?_
    refine lv_iload_n hx hb dB_add_24 rfl (lv_at hl 2 rfl) ?_
    refine kw_iast (w' := lc G a (σ 0 0) (σ 0 1) (σ 0 2) (σ 0 3) (σ 0 4) (σ 0 5) (σ 0 6) (σ 0 10) (σ 0 11) (σ 0 12) (σ 0 13) (σ 0 14) (σ 0 15) (σ 0 16) (σ 0 20) (σ 0 21) (σ 0 22) (σ 0 30) (σ 1) (σ 2) (σ 3) (upd (σ 4) (((σ 0 30) * 5).toNatClampNeg) day)) (j := (((σ 0 30) * 5).toNatClampNeg)) hx hb hK hP hD hS 7 0 rfl rfl (kw_ixin (kb_at hcn) (by have := kb_lt h1 hcn hcl; omega) (by decide)) rfl dB_add_25 rfl (fun H locs hP hD hS => ?_)
    refine lv_aload_n hx hb dB_add_26 rfl (lv_at hl 1 rfl) ?_
    refine va_get (v := .ref (a 7)) hx hb hg hin_B hown hK hP 3 rfl rfl 0 (by decide) (hg _ gw_196) (fun _ h => h) rfl dB_add_27 ?_
    refine lv_iload hx hb dB_add_30 (lv_at hl 0 rfl) ?_
    refine lv_iconst (v := 1) hx hb dB_add_32 (by decide) ?_
    refine lv_iadd hx hb dB_add_33 ?_
    refine lv_iload_n hx hb dB_add_34 rfl (lv_at hl 3 rfl) ?_
    refine kw_iast (w' := lc G a (σ 0 0) (σ 0 1) (σ 0 2) (σ 0 3) (σ 0 4) (σ 0 5) (σ 0 6) (σ 0 10) (σ 0 11) (σ 0 12) (σ 0 13) (σ 0 14) (σ 0 15) (σ 0 16) (σ 0 20) (σ 0 21) (σ 0 22) (σ 0 30) (σ 1) (σ 2) (σ 3) (upd (upd (σ 4) (((σ 0 30) * 5).toNatClampNeg) day) ((((σ 0 30) * 5) + 1).toNatClampNeg) principal)) (j := ((((σ 0 30) * 5) + 1).toNatClampNeg)) hx hb hK hP hD hS 7 0 rfl rfl (kw_ixin ((congrArg (· + 1) (kb_at hcn)).trans (nI_add _ 1)) (by have := kb_lt h1 hcn hcl; omega) (by decide)) rfl dB_add_35 rfl (fun H locs hP hD hS => ?_)
    refine lv_aload_n hx hb dB_add_36 rfl (lv_at hl 1 rfl) ?_
    refine va_get (v := .ref (a 7)) hx hb hg hin_B hown hK hP 3 rfl rfl 0 (by decide) (hg _ gw_196) (fun _ h => h) rfl dB_add_37 ?_
    refine lv_iload hx hb dB_add_40 (lv_at hl 0 rfl) ?_
    refine lv_iconst (v := 2) hx hb dB_add_42 (by decide) ?_
    refine lv_iadd hx hb dB_add_43 ?_
    refine lv_iload_n hx hb dB_add_44 rfl (lv_at hl 4 rfl) ?_
    refine kw_iast (w' := lc G a (σ 0 0) (σ 0 1) (σ 0 2) (σ 0 3) (σ 0 4) (σ 0 5) (σ 0 6) (σ 0 10) (σ 0 11) (σ 0 12) (σ 0 13) (σ 0 14) (σ 0 15) (σ 0 16) (σ 0 20) (σ 0 21) (σ 0 22) (σ 0 30) (σ 1) (σ 2) (σ 3) (upd (upd (upd (σ 4) (((σ 0 30) * 5).toNatClampNeg) day) ((((σ 0 30) * 5) + 1).toNatClampNeg) principal) ((((σ 0 30) * 5) + 2).toNatClampNeg) interest)) (j := ((((σ 0 30) * 5) + 2).toNatClampNeg)) hx hb hK hP hD hS 7 0 rfl rfl (kw_ixin ((congrArg (· + 2) (kb_at hcn)).trans (nI_add _ 2)) (by have := kb_lt h1 hcn hcl; omega) (by decide)) rfl dB_add_45 rfl (fun H locs hP hD hS => ?_)
    refine lv_aload_n hx hb dB_add_46 rfl (lv_at hl 1 rfl) ?_
    refine va_get (v := .ref (a 7)) hx hb hg hin_B hown hK hP 3 rfl rfl 0 (by decide) (hg _ gw_196) (fun _ h => h) rfl dB_add_47 ?_
    refine lv_iload hx hb dB_add_50 (lv_at hl 0 rfl) ?_
    refine lv_iconst (v := 3) hx hb dB_add_52 (by decide) ?_
    refine lv_iadd hx hb dB_add_53 ?_
    refine lv_iload hx hb dB_add_54 (lv_at hl 5 rfl) ?_
    refine kw_iast (w' := lc G a (σ 0 0) (σ 0 1) (σ 0 2) (σ 0 3) (σ 0 4) (σ 0 5) (σ 0 6) (σ 0 10) (σ 0 11) (σ 0 12) (σ 0 13) (σ 0 14) (σ 0 15) (σ 0 16) (σ 0 20) (σ 0 21) (σ 0 22) (σ 0 30) (σ 1) (σ 2) (σ 3) (upd (upd (upd (upd (σ 4) (((σ 0 30) * 5).toNatClampNeg) day) ((((σ 0 30) * 5) + 1).toNatClampNeg) principal) ((((σ 0 30) * 5) + 2).toNatClampNeg) interest) ((((σ 0 30) * 5) + 3).toNatClampNeg) part)) (j := ((((σ 0 30) * 5) + 3).toNatClampNeg)) hx hb hK hP hD hS 7 0 rfl rfl (kw_ixin ((congrArg (· + 3) (kb_at hcn)).trans (nI_add _ 3)) (by have := kb_lt h1 hcn hcl; omega) (by decide)) rfl dB_add_56 rfl (fun H locs hP hD hS => ?_)
    refine lv_aload_n hx hb dB_add_57 rfl (lv_at hl 1 rfl) ?_
    refine va_get (v := .ref (a 7)) hx hb hg hin_B hown hK hP 3 rfl rfl 0 (by decide) (hg _ gw_196) (fun _ h => h) rfl dB_add_58 ?_
    refine lv_iload hx hb dB_add_61 (lv_at hl 0 rfl) ?_
    refine lv_iconst (v := 4) hx hb dB_add_63 (by decide) ?_
    refine lv_iadd hx hb dB_add_64 ?_
    refine lv_iload hx hb dB_add_65 (lv_at hl 6 rfl) ?_
    refine kw_iast (w' := lc G a (σ 0 0) (σ 0 1) (σ 0 2) (σ 0 3) (σ 0 4) (σ 0 5) (σ 0 6) (σ 0 10) (σ 0 11) (σ 0 12) (σ 0 13) (σ 0 14) (σ 0 15) (σ 0 16) (σ 0 20) (σ 0 21) (σ 0 22) (σ 0 30) (σ 1) (σ 2) (σ 3) (upd (upd (upd (upd (upd (σ 4) (((σ 0 30) * 5).toNatClampNeg) day) ((((σ 0 30) * 5) + 1).toNatClampNeg) principal) ((((σ 0 30) * 5) + 2).toNatClampNeg) interest) ((((σ 0 30) * 5) + 3).toNatClampNeg) part) ((((σ 0 30) * 5) + 4).toNatClampNeg) deposit)) (j := ((((σ 0 30) * 5) + 4).toNatClampNeg)) hx hb hK hP hD hS 7 0 rfl rfl (kw_ixin ((congrArg (· + 4) (kb_at hcn)).trans (nI_add _ 4)) (by have := kb_lt h1 hcn hcl; omega) (by decide)) rfl dB_add_67 rfl (fun H locs hP hD hS => ?_)
    refine lv_aload_n hx hb dB_add_68 rfl (lv_at hl 1 rfl) ?_
    refine lv_dup hx hb dB_add_69 rfl ?_
    refine va_get (v := .int (σ 0 30)) hx hb hg hin_B hown hK hP 3 rfl rfl 1 (by decide) (hg _ gw_198) (fun _ h => h) rfl dB_add_70 ?_
    refine lv_iconst (v := 1) hx hb dB_add_73 (by decide) ?_
    refine lv_iadd hx hb dB_add_74 ?_
    refine kw_put (w' := lc G a (σ 0 0) (σ 0 1) (σ 0 2) (σ 0 3) (σ 0 4) (σ 0 5) (σ 0 6) (σ 0 10) (σ 0 11) (σ 0 12) (σ 0 13) (σ 0 14) (σ 0 15) (σ 0 16) (σ 0 20) (σ 0 21) (σ 0 22) ((σ 0 30) + 1) (σ 1) (σ 2) (σ 3) (upd (upd (upd (upd (upd (σ 4) (((σ 0 30) * 5).toNatClampNeg) day) ((((σ 0 30) * 5) + 1).toNatClampNeg) principal) ((((σ 0 30) * 5) + 2).toNatClampNeg) interest) ((((σ 0 30) * 5) + 3).toNatClampNeg) part) ((((σ 0 30) * 5) + 4).toNatClampNeg) deposit)) (v := .int ((σ 0 30) + 1)) (ty := .int) hx hb hg hin_B tyB tyB_ok nB hown hK hP hD hS 3 rfl rfl 1 (by decide) (hg _ gw_198) (fun _ h => h) rfl (by decide +kernel) rfl rfl (Nat.le_of_ble_eq_true rfl) dB_add_75 rfl (fun H locs hP hD hS => ?_)
    have hk9 : kB_add σ day principal interest part deposit = mkL (σ 0 0) (σ 0 1) (σ 0 2) (σ 0 3) (σ 0 4) (σ 0 5) (σ 0 6) (σ 0 10) (σ 0 11) (σ 0 12) (σ 0 13) (σ 0 14) (σ 0 15) (σ 0 16) (σ 0 20) (σ 0 21) (σ 0 22) ((σ 0 30) + 1) (σ 1) (σ 2) (σ 3) (upd (upd (upd (upd (upd (σ 4) (((σ 0 30) * 5).toNatClampNeg) day) ((((σ 0 30) * 5) + 1).toNatClampNeg) principal) ((((σ 0 30) * 5) + 2).toNatClampNeg) interest) ((((σ 0 30) * 5) + 3).toNatClampNeg) part) ((((σ 0 30) * 5) + 4).toNatClampNeg) deposit) := by unfold kB_add; rw [if_pos h1]
    exact kw_vret hx hb hr hlocks hK hP hD hS (kw_fin1 (f := lcells G a) (S := mkL (σ 0 0) (σ 0 1) (σ 0 2) (σ 0 3) (σ 0 4) (σ 0 5) (σ 0 6) (σ 0 10) (σ 0 11) (σ 0 12) (σ 0 13) (σ 0 14) (σ 0 15) (σ 0 16) (σ 0 20) (σ 0 21) (σ 0 22) ((σ 0 30) + 1) (σ 1) (σ 2) (σ 3) (upd (upd (upd (upd (upd (σ 4) (((σ 0 30) * 5).toNatClampNeg) day) ((((σ 0 30) * 5) + 1).toNatClampNeg) principal) ((((σ 0 30) * 5) + 2).toNatClampNeg) interest) ((((σ 0 30) * 5) + 3).toNatClampNeg) part) ((((σ 0 30) * 5) + 4).toNatClampNeg) deposit)) rfl hk9) dB_add_78
  · skip
    have hk9 : kB_add σ day principal interest part deposit = σ := by unfold kB_add; rw [if_neg h1]
    exact kw_vret hx hb hr hlocks hK hP hD hS (kw_fin1 (f := lcells G a) (S := σ) rfl hk9) dB_add_9
def kB_latestIsOf (σ : KS) (day : Int32) : Int32 := if (σ 0 30) ≤ (0 : Int32) then 0 else (if (σ 4 ((((σ 0 30) - 1) * 5).toNatClampNeg)) = day then 1 else 0)
abbrev wgB_latestIsOf : List Cond := .code yB_latestIsOf cB_latestIsOf 2 (some .boolean) :: GW
abbrev rm_B_latestIsOf : Room := { frames := 0, cells := 0, slots := 0, locals := 0 }
set_option maxRecDepth 100000 in
set_option maxHeartbeats 4000000 in
theorem c_B_latestIsOf (l : Launch) (D : va_G) (G : Nat → ClassId) (a : Nat → Nat) (σ : KS) (day : Int32) (sz : Nat) (cn : Nat) (hcn : σ 0 30 = nI cn) (hcl : cn ≤ 50) : Met l yB_latestIsOf wgB_latestIsOf rm_B_latestIsOf (kw_Pc D vwCl (gt G) [.ref (a 3), .int day] (lcells G a σ) sz) (kw_i D vwCl (gt G) (lcells G a σ) sz (kB_latestIsOf σ day) (lcells G a σ)) 0 0 (va_A (lcells G a σ) sz) := by
  refine Met.ofW (cc := cB_latestIsOf) (maxL := 2) (ret := (some .boolean)) (by decide) rfl ?_
  intro p e s m args below meth c s₁ B hml hv
  have hx := B.exec
  have hb := B.bytes
  have hr := B.returns
  have hts := atoms_spec (ws := wgB_latestIsOf) B.pre
  have hg : ∀ w ∈ GW, w.before args s = true := fun w h => hts w (List.mem_cons_of_mem _ h)
  have hown : s.vm.findClass RB = some m.cls := findClass_of_methodNamed B.named
  have hlocks := B.notSynchronized
  obtain ⟨hv, hsz, hP, hK, hD0⟩ := hv
  subst hsz
  have hD := hD0.self (sz := s.heap.size)
  have hS : va_S (va_A (lcells G a σ) s.heap.size) s.heap s.heap [] := va_S.rf
  refine kw_entry [.ref (a 3), .int day] hv (Nat.le_of_ble_eq_true rfl) (fun ls hl => ?_)
  have hl : lv_has ls 2 [(0, .ref (a 3)), (1, .int day)] := hl
  refine lv_aload_n hx hb dB_latestIsOf_0 rfl (lv_at hl 0 rfl) ?_
  refine va_get (v := .int (σ 0 30)) hx hb hg hin_B hown hK hP 3 rfl rfl 1 (by decide) (hg _ gw_198) (fun _ h => h) rfl dB_latestIsOf_1 ?_
  refine lv_if_le (tgt := 28) hx hb dB_latestIsOf_4 (by decide) (fun h1 => ?_) (fun h1 => ?_)
  · skip
    refine lv_iconst (v := 0) hx hb dB_latestIsOf_28 (by decide) ?_
    have hk9 : kB_latestIsOf σ day = 0 := by unfold kB_latestIsOf; rw [if_pos h1]
    exact kw_zret hx hb hr (by decide) hlocks hK hP hD hS ⟨hk9.symm, rfl⟩ dB_latestIsOf_29
  · skip
    refine lv_aload_n hx hb dB_latestIsOf_7 rfl (lv_at hl 0 rfl) ?_
    refine va_get (v := .ref (a 7)) hx hb hg hin_B hown hK hP 3 rfl rfl 0 (by decide) (hg _ gw_196) (fun _ h => h) rfl dB_latestIsOf_8 ?_
    refine lv_aload_n hx hb dB_latestIsOf_11 rfl (lv_at hl 0 rfl) ?_
    refine va_get (v := .int (σ 0 30)) hx hb hg hin_B hown hK hP 3 rfl rfl 1 (by decide) (hg _ gw_198) (fun _ h => h) rfl dB_latestIsOf_12 ?_
    refine lv_iconst (v := 1) hx hb dB_latestIsOf_15 (by decide) ?_
    refine lv_isub hx hb dB_latestIsOf_16 ?_
    refine lv_iconst (v := 5) hx hb dB_latestIsOf_17 (by decide) ?_
    refine lv_imul hx hb dB_latestIsOf_18 ?_
    refine kw_iald (v := σ 4 ((((σ 0 30) - 1) * 5).toNatClampNeg)) (j := ((((σ 0 30) - 1) * 5).toNatClampNeg)) hx hb hK hP 7 0 rfl rfl (kw_ixin (kb_last h1 hcn) (by have := kb_pos h1 hcn; omega) (by decide)) rfl rfl dB_latestIsOf_19 ?_
    refine lv_iload_n hx hb dB_latestIsOf_20 rfl (lv_at hl 1 rfl) ?_
    refine lv_icmp_ne (tgt := 28) hx hb dB_latestIsOf_21 (by decide) (fun h2 => ?_) (fun h2 => ?_)
    · skip
      refine lv_iconst (v := 0) hx hb dB_latestIsOf_28 (by decide) ?_
      have hk9 : kB_latestIsOf σ day = 0 := by unfold kB_latestIsOf; rw [if_neg h1, if_neg h2]
      exact kw_zret hx hb hr (by decide) hlocks hK hP hD hS ⟨hk9.symm, rfl⟩ dB_latestIsOf_29
    · skip
      refine lv_iconst (v := 1) hx hb dB_latestIsOf_24 (by decide) ?_
      refine lv_goto (tgt := 29) hx hb dB_latestIsOf_25 (by decide) ?_
      have hk9 : kB_latestIsOf σ day = 1 := by unfold kB_latestIsOf; rw [if_neg h1, if_pos h2]
      exact kw_zret hx hb hr (by decide) hlocks hK hP hD hS ⟨hk9.symm, rfl⟩ dB_latestIsOf_29
def kN_accruedBy (σ : KS) (today : Int32) : Int32 := (σ 0 3) + (kC_interestOn (σ 0 1) (σ 0 10) (kS_top (σ 0 12) (σ 0 4) today) (σ 0 12) (σ 0 13))
abbrev wgN_accruedBy : List Cond := .code yN_accruedBy cN_accruedBy 3 (some .int) :: GW
abbrev rm_N_accruedBy : Room := { frames := 3, cells := 0, slots := 0, locals := 68 }
set_option maxRecDepth 100000 in
set_option maxHeartbeats 4000000 in
theorem c_N_accruedBy (l : Launch) (D : va_G) (G : Nat → ClassId) (a : Nat → Nat) (σ : KS) (today : Int32) (sz : Nat)  : Met l yN_accruedBy wgN_accruedBy rm_N_accruedBy (kw_Pc D vwCl (gt G) [.ref (a 0), .int today] (lcells G a σ) sz) (kw_i D vwCl (gt G) (lcells G a σ) sz (kN_accruedBy σ today) (lcells G a σ)) 0 0 (va_A (lcells G a σ) sz) := by
  refine Met.ofW (cc := cN_accruedBy) (maxL := 3) (ret := (some .int)) (by decide) rfl ?_
  intro p e s m args below meth c s₁ B hml hv
  have hx := B.exec
  have hb := B.bytes
  have hr := B.returns
  have hts := atoms_spec (ws := wgN_accruedBy) B.pre
  have hg : ∀ w ∈ GW, w.before args s = true := fun w h => hts w (List.mem_cons_of_mem _ h)
  have hown : s.vm.findClass RN = some m.cls := findClass_of_methodNamed B.named
  have hlocks := B.notSynchronized
  obtain ⟨hv, hsz, hP, hK, hD0⟩ := hv
  subst hsz
  have hD := hD0.self (sz := s.heap.size)
  have hS : va_S (va_A (lcells G a σ) s.heap.size) s.heap s.heap [] := va_S.rf
  refine kw_entry [.ref (a 0), .int today] hv (Nat.le_of_ble_eq_true rfl) (fun ls hl => ?_)
  have hl : lv_has ls 3 [(0, .ref (a 0)), (1, .int today)] := hl
  refine lv_aload_n hx hb dN_accruedBy_0 rfl (lv_at hl 0 rfl) ?_
  refine va_get (v := .ref (a 1)) hx hb hg hin_N hown hK hP 0 rfl rfl 0 (by decide) (hg _ gw_214) (fun _ h => h) rfl dN_accruedBy_1 ?_
  refine va_get (v := .int (σ 0 12)) hx hb hg hin_T hown hK hP 1 rfl rfl 2 (by decide) (hg _ gw_145) (fun _ h => h) rfl dN_accruedBy_4 ?_
  refine lv_aload_n hx hb dN_accruedBy_7 rfl (lv_at hl 0 rfl) ?_
  refine va_get (v := .int (σ 0 4)) hx hb hg hin_N hown hK hP 0 rfl rfl 9 (by decide) (hg _ gw_231) (fun _ h => h) rfl dN_accruedBy_8 ?_
  refine lv_iload_n hx hb dN_accruedBy_11 rfl (lv_at hl 1 rfl) ?_
  refine kp_reti (va_runS (As := [.int (σ 0 12), .int (σ 0 4), .int today]) (rest := []) ⟨hx, hb, hml, hown, hg⟩ (c_S_top l (σ 0 12) (σ 0 4) today) ⟨kw_cB (n := 3) hg gw_271 gw_14 gw_269 (by decide +kernel) (by decide +kernel) ⟨Nat.le_of_ble_eq_true rfl, Nat.le_of_ble_eq_true rfl⟩ rfl rfl, hg _ gw_270⟩ kp_pre rfl rfl hl.1 rfl (lv_room (Nat.le_of_ble_eq_true rfl)) dN_accruedBy_12 ⟨Nat.le_of_ble_eq_true rfl, Nat.le_of_ble_eq_true rfl⟩) ?_
  refine lv_topi (fun r_1 e_2 => ?_)
  replace e_2 := e_2.symm
  refine lv_istore_n hx hb dN_accruedBy_15 rfl hl (by decide) rfl (fun ls hl => ?_)
  have hl : lv_has ls 3 [(2, .int r_1), (0, .ref (a 0)), (1, .int today)] := hl
  refine lv_aload_n hx hb dN_accruedBy_16 rfl (lv_at hl 1 rfl) ?_
  refine va_get (v := .int (σ 0 3)) hx hb hg hin_N hown hK hP 0 rfl rfl 8 (by decide) (hg _ gw_230) (fun _ h => h) rfl dN_accruedBy_17 ?_
  refine lv_aload_n hx hb dN_accruedBy_20 rfl (lv_at hl 1 rfl) ?_
  refine va_get (v := .int (σ 0 1)) hx hb hg hin_N hown hK hP 0 rfl rfl 6 (by decide) (hg _ gw_226) (fun _ h => h) rfl dN_accruedBy_21 ?_
  refine lv_aload_n hx hb dN_accruedBy_24 rfl (lv_at hl 1 rfl) ?_
  refine va_get (v := .ref (a 1)) hx hb hg hin_N hown hK hP 0 rfl rfl 0 (by decide) (hg _ gw_214) (fun _ h => h) rfl dN_accruedBy_25 ?_
  refine va_get (v := .int (σ 0 10)) hx hb hg hin_T hown hK hP 1 rfl rfl 0 (by decide) (hg _ gw_141) (fun _ h => h) rfl dN_accruedBy_28 ?_
  refine lv_iload_n hx hb dN_accruedBy_31 rfl (lv_at hl 0 rfl) ?_
  refine lv_aload_n hx hb dN_accruedBy_32 rfl (lv_at hl 1 rfl) ?_
  refine va_get (v := .ref (a 1)) hx hb hg hin_N hown hK hP 0 rfl rfl 0 (by decide) (hg _ gw_214) (fun _ h => h) rfl dN_accruedBy_33 ?_
  refine va_get (v := .int (σ 0 12)) hx hb hg hin_T hown hK hP 1 rfl rfl 2 (by decide) (hg _ gw_145) (fun _ h => h) rfl dN_accruedBy_36 ?_
  refine lv_aload_n hx hb dN_accruedBy_39 rfl (lv_at hl 1 rfl) ?_
  refine va_get (v := .ref (a 1)) hx hb hg hin_N hown hK hP 0 rfl rfl 0 (by decide) (hg _ gw_214) (fun _ h => h) rfl dN_accruedBy_40 ?_
  refine va_get (v := .int (σ 0 13)) hx hb hg hin_T hown hK hP 1 rfl rfl 3 (by decide) (hg _ gw_147) (fun _ h => h) rfl dN_accruedBy_43 ?_
  refine kp_reti (va_runS (As := [.int (σ 0 1), .int (σ 0 10), .int r_1, .int (σ 0 12), .int (σ 0 13)]) (rest := [.int (σ 0 3)]) ⟨hx, hb, hml, hown, hg⟩ (c_C_interestOn l (σ 0 1) (σ 0 10) r_1 (σ 0 12) (σ 0 13)) ⟨kw_cB (n := 5) hg gw_284 gw_15 gw_282 (by decide +kernel) (by decide +kernel) ⟨Nat.le_of_ble_eq_true rfl, Nat.le_of_ble_eq_true rfl⟩ rfl rfl, hg _ gw_283⟩ kp_pre rfl rfl hl.1 rfl (lv_room (Nat.le_of_ble_eq_true rfl)) dN_accruedBy_46 ⟨Nat.le_of_ble_eq_true rfl, Nat.le_of_ble_eq_true rfl⟩) ?_
  refine lv_topi (fun r_3 e_4 => ?_)
  replace e_4 := e_4.symm
  refine lv_iadd hx hb dN_accruedBy_49 ?_
  have hk9 : kN_accruedBy σ today = (σ 0 3) + r_3 := by subst e_2 e_4; rfl
  exact kw_iret hx hb hr hlocks hK hP hD hS ⟨hk9.symm, rfl⟩ dN_accruedBy_50
def kN_accrue (σ : KS) (today : Int32) : KS := mkL (σ 0 0) (σ 0 1) (σ 0 2) (kN_accruedBy σ today) today (σ 0 5) (σ 0 6) (σ 0 10) (σ 0 11) (σ 0 12) (σ 0 13) (σ 0 14) (σ 0 15) (σ 0 16) (σ 0 20) (σ 0 21) (σ 0 22) (σ 0 30) (σ 1) (σ 2) (σ 3) (σ 4)
abbrev wgN_accrue : List Cond := .code yN_accrue cN_accrue 2 none :: GW
abbrev rm_N_accrue : Room := { frames := 4, cells := 0, slots := 0, locals := 90 }
set_option maxRecDepth 100000 in
set_option maxHeartbeats 4000000 in
theorem c_N_accrue (l : Launch) (D : va_G) (G : Nat → ClassId) (a : Nat → Nat) (σ : KS) (today : Int32) (sz : Nat)  : Met l yN_accrue wgN_accrue rm_N_accrue (kw_Pc D vwCl (gt G) [.ref (a 0), .int today] (lcells G a σ) sz) (kw_v D vwCl (gt G) (lcells G a σ) sz (lcells G a (kN_accrue σ today))) 0 0 (va_A (lcells G a σ) sz) := by
  refine Met.ofW (cc := cN_accrue) (maxL := 2) (ret := none) (by decide) rfl ?_
  intro p e s m args below meth c s₁ B hml hv
  have hx := B.exec
  have hb := B.bytes
  have hr := B.returns
  have hts := atoms_spec (ws := wgN_accrue) B.pre
  have hg : ∀ w ∈ GW, w.before args s = true := fun w h => hts w (List.mem_cons_of_mem _ h)
  have hown : s.vm.findClass RN = some m.cls := findClass_of_methodNamed B.named
  have hlocks := B.notSynchronized
  obtain ⟨hv, hsz, hP, hK, hD0⟩ := hv
  subst hsz
  have hD := hD0.self (sz := s.heap.size)
  have hS : va_S (va_A (lcells G a σ) s.heap.size) s.heap s.heap [] := va_S.rf
  refine kw_entry [.ref (a 0), .int today] hv (Nat.le_of_ble_eq_true rfl) (fun ls hl => ?_)
  have hl : lv_has ls 2 [(0, .ref (a 0)), (1, .int today)] := hl
  refine lv_aload_n hx hb dN_accrue_0 rfl (lv_at hl 0 rfl) ?_
  refine lv_aload_n hx hb dN_accrue_1 rfl (lv_at hl 0 rfl) ?_
  refine lv_iload_n hx hb dN_accrue_2 rfl (lv_at hl 1 rfl) ?_
  refine kw_reti0 (va_runV (C := RN) (As := [.int today]) (rest := [.ref (a 0)]) ⟨hx, hb, hml, hown, hg⟩ (c_N_accruedBy l D G a σ today _) ⟨kw_cB (n := 1) hg gw_364 gw_10 gw_361 (by decide +kernel) (by decide +kernel) ⟨Nat.le_of_ble_eq_true rfl, Nat.le_of_ble_eq_true rfl⟩ rfl rfl, hg _ gw_362, hg _ gw_363⟩ (kw_preV (q0 := 0) hK hP hD rfl rfl) rfl rfl hl.1 rfl (lv_room (Nat.le_of_ble_eq_true rfl)) dN_accrue_3 ⟨Nat.le_of_ble_eq_true rfl, Nat.le_of_ble_eq_true rfl⟩) hP hD hS (fun _ h => Or.inr h) (fun H locs hP hD hS => ?_)
  refine lv_topi (fun r_1 e_2 => ?_)
  replace e_2 := e_2.symm
  refine kw_put (w' := lc G a (σ 0 0) (σ 0 1) (σ 0 2) r_1 (σ 0 4) (σ 0 5) (σ 0 6) (σ 0 10) (σ 0 11) (σ 0 12) (σ 0 13) (σ 0 14) (σ 0 15) (σ 0 16) (σ 0 20) (σ 0 21) (σ 0 22) (σ 0 30) (σ 1) (σ 2) (σ 3) (σ 4)) (v := .int r_1) (ty := .int) hx hb hg hin_N tyN tyN_ok nN hown hK hP hD hS 0 rfl rfl 8 (by decide) (hg _ gw_230) (fun _ h => h) rfl (by decide +kernel) rfl rfl (Nat.le_of_ble_eq_true rfl) dN_accrue_6 rfl (fun H locs hP hD hS => ?_)
  refine lv_aload_n hx hb dN_accrue_9 rfl (lv_at hl 0 rfl) ?_
  refine lv_iload_n hx hb dN_accrue_10 rfl (lv_at hl 1 rfl) ?_
  refine kw_put (w' := lc G a (σ 0 0) (σ 0 1) (σ 0 2) r_1 today (σ 0 5) (σ 0 6) (σ 0 10) (σ 0 11) (σ 0 12) (σ 0 13) (σ 0 14) (σ 0 15) (σ 0 16) (σ 0 20) (σ 0 21) (σ 0 22) (σ 0 30) (σ 1) (σ 2) (σ 3) (σ 4)) (v := .int today) (ty := .int) hx hb hg hin_N tyN tyN_ok nN hown hK hP hD hS 0 rfl rfl 9 (by decide) (hg _ gw_231) (fun _ h => h) rfl (by decide +kernel) rfl rfl (Nat.le_of_ble_eq_true rfl) dN_accrue_11 rfl (fun H locs hP hD hS => ?_)
  have hk9 : kN_accrue σ today = mkL (σ 0 0) (σ 0 1) (σ 0 2) r_1 today (σ 0 5) (σ 0 6) (σ 0 10) (σ 0 11) (σ 0 12) (σ 0 13) (σ 0 14) (σ 0 15) (σ 0 16) (σ 0 20) (σ 0 21) (σ 0 22) (σ 0 30) (σ 1) (σ 2) (σ 3) (σ 4) := by subst e_2; rfl
  exact kw_vret hx hb hr hlocks hK hP hD hS (kw_fin1 (f := lcells G a) (S := mkL (σ 0 0) (σ 0 1) (σ 0 2) r_1 today (σ 0 5) (σ 0 6) (σ 0 10) (σ 0 11) (σ 0 12) (σ 0 13) (σ 0 14) (σ 0 15) (σ 0 16) (σ 0 20) (σ 0 21) (σ 0 22) (σ 0 30) (σ 1) (σ 2) (σ 3) (σ 4)) rfl hk9) dN_accrue_14
def kN_addLateFee (σ : KS) : KS := mkL (σ 0 0) (σ 0 1) (σ 0 2) (σ 0 3) (σ 0 4) (σ 0 5) (σ 0 6) (σ 0 10) (σ 0 11) (σ 0 12) (σ 0 13) (σ 0 14) (σ 0 15) (σ 0 16) (σ 0 20) (σ 0 21) (σ 0 22) (σ 0 30) (upd (σ 1) 0 ((σ 1 0) + (kC_rounded ((((σ 1 1).toInt64) + ((σ 1 2).toInt64)) + ((σ 1 3).toInt64)) (20 : Int64) (σ 0 13)))) (σ 2) (σ 3) (σ 4)
abbrev wgN_addLateFee : List Cond := .code yN_addLateFee cN_addLateFee 3 none :: GW
abbrev rm_N_addLateFee : Room := { frames := 1, cells := 0, slots := 0, locals := 29 }
set_option maxRecDepth 100000 in
set_option maxHeartbeats 4000000 in
theorem c_N_addLateFee (l : Launch) (D : va_G) (G : Nat → ClassId) (a : Nat → Nat) (σ : KS)  (sz : Nat)  : Met l yN_addLateFee wgN_addLateFee rm_N_addLateFee (kw_Pc D vwCl (gt G) [.ref (a 0)] (lcells G a σ) sz) (kw_v D vwCl (gt G) (lcells G a σ) sz (lcells G a (kN_addLateFee σ))) 0 0 (va_A (lcells G a σ) sz) := by
  refine Met.ofW (cc := cN_addLateFee) (maxL := 3) (ret := none) (by decide) rfl ?_
  intro p e s m args below meth c s₁ B hml hv
  have hx := B.exec
  have hb := B.bytes
  have hr := B.returns
  have hts := atoms_spec (ws := wgN_addLateFee) B.pre
  have hg : ∀ w ∈ GW, w.before args s = true := fun w h => hts w (List.mem_cons_of_mem _ h)
  have hown : s.vm.findClass RN = some m.cls := findClass_of_methodNamed B.named
  have hlocks := B.notSynchronized
  obtain ⟨hv, hsz, hP, hK, hD0⟩ := hv
  subst hsz
  have hD := hD0.self (sz := s.heap.size)
  have hS : va_S (va_A (lcells G a σ) s.heap.size) s.heap s.heap [] := va_S.rf
  refine kw_entry [.ref (a 0)] hv (Nat.le_of_ble_eq_true rfl) (fun ls hl => ?_)
  have hl : lv_has ls 3 [(0, .ref (a 0))] := hl
  refine lv_aload_n hx hb dN_addLateFee_0 rfl (lv_at hl 0 rfl) ?_
  refine va_get (v := .ref (a 4)) hx hb hg hin_N hown hK hP 0 rfl rfl 3 (by decide) (hg _ gw_220) (fun _ h => h) rfl dN_addLateFee_1 ?_
  refine lv_iconst (v := 1) hx hb dN_addLateFee_4 (by decide) ?_
  refine kw_iald (v := σ 1 1) (j := 1) hx hb hK hP 4 0 rfl rfl (by unfold vp_in; decide) rfl rfl dN_addLateFee_5 ?_
  refine lv_i2l hx hb dN_addLateFee_6 rfl ?_
  refine lv_aload_n hx hb dN_addLateFee_7 rfl (lv_at hl 0 rfl) ?_
  refine va_get (v := .ref (a 4)) hx hb hg hin_N hown hK hP 0 rfl rfl 3 (by decide) (hg _ gw_220) (fun _ h => h) rfl dN_addLateFee_8 ?_
  refine lv_iconst (v := 2) hx hb dN_addLateFee_11 (by decide) ?_
  refine kw_iald (v := σ 1 2) (j := 2) hx hb hK hP 4 0 rfl rfl (by unfold vp_in; decide) rfl rfl dN_addLateFee_12 ?_
  refine lv_i2l hx hb dN_addLateFee_13 rfl ?_
  refine lv_ladd hx hb dN_addLateFee_14 ?_
  refine lv_aload_n hx hb dN_addLateFee_15 rfl (lv_at hl 0 rfl) ?_
  refine va_get (v := .ref (a 4)) hx hb hg hin_N hown hK hP 0 rfl rfl 3 (by decide) (hg _ gw_220) (fun _ h => h) rfl dN_addLateFee_16 ?_
  refine lv_iconst (v := 3) hx hb dN_addLateFee_19 (by decide) ?_
  refine kw_iald (v := σ 1 3) (j := 3) hx hb hK hP 4 0 rfl rfl (by unfold vp_in; decide) rfl rfl dN_addLateFee_20 ?_
  refine lv_i2l hx hb dN_addLateFee_21 rfl ?_
  refine lv_ladd hx hb dN_addLateFee_22 ?_
  refine lv_lstore_n hx hb dN_addLateFee_23 rfl hl (by decide) rfl (fun ls hl => ?_)
  have hl : lv_has ls 3 [(1, .long ((((σ 1 1).toInt64) + ((σ 1 2).toInt64)) + ((σ 1 3).toInt64))), (0, .ref (a 0))] := hl
  refine lv_aload_n hx hb dN_addLateFee_24 rfl (lv_at hl 1 rfl) ?_
  refine va_get (v := .ref (a 4)) hx hb hg hin_N hown hK hP 0 rfl rfl 3 (by decide) (hg _ gw_220) (fun _ h => h) rfl dN_addLateFee_25 ?_
  refine lv_iconst (v := 0) hx hb dN_addLateFee_28 (by decide) ?_
  refine lv_dup2_11 hx hb dN_addLateFee_29 rfl rfl ?_
  refine kw_iald (v := σ 1 0) (j := 0) hx hb hK hP 4 0 rfl rfl (by unfold vp_in; decide) rfl rfl dN_addLateFee_30 ?_
  refine lv_lload_n hx hb dN_addLateFee_31 rfl (lv_at hl 0 rfl) ?_
  refine lv_ldc2 (v := 20) hx hb hown (hg _ gw_349) dN_addLateFee_32 ?_
  refine lv_aload_n hx hb dN_addLateFee_35 rfl (lv_at hl 1 rfl) ?_
  refine va_get (v := .ref (a 1)) hx hb hg hin_N hown hK hP 0 rfl rfl 0 (by decide) (hg _ gw_214) (fun _ h => h) rfl dN_addLateFee_36 ?_
  refine va_get (v := .int (σ 0 13)) hx hb hg hin_T hown hK hP 1 rfl rfl 3 (by decide) (hg _ gw_147) (fun _ h => h) rfl dN_addLateFee_39 ?_
  refine kp_reti (va_runS (As := [.long ((((σ 1 1).toInt64) + ((σ 1 2).toInt64)) + ((σ 1 3).toInt64)), .long 20, .int (σ 0 13)]) (rest := [.int (σ 1 0), .int 0, .ref (a 4)]) ⟨hx, hb, hml, hown, hg⟩ (c_C_rounded l ((((σ 1 1).toInt64) + ((σ 1 2).toInt64)) + ((σ 1 3).toInt64)) (20 : Int64) (σ 0 13)) ⟨kw_cB (n := 3) hg gw_292 gw_15 gw_350 (by decide +kernel) (by decide +kernel) ⟨Nat.le_of_ble_eq_true rfl, Nat.le_of_ble_eq_true rfl⟩ rfl rfl, hg _ gw_291⟩ kp_pre rfl rfl hl.1 rfl (lv_room (Nat.le_of_ble_eq_true rfl)) dN_addLateFee_42 ⟨Nat.le_of_ble_eq_true rfl, Nat.le_of_ble_eq_true rfl⟩) ?_
  refine lv_topi (fun r_1 e_2 => ?_)
  replace e_2 := e_2.symm
  refine lv_iadd hx hb dN_addLateFee_45 ?_
  refine kw_iast (w' := lc G a (σ 0 0) (σ 0 1) (σ 0 2) (σ 0 3) (σ 0 4) (σ 0 5) (σ 0 6) (σ 0 10) (σ 0 11) (σ 0 12) (σ 0 13) (σ 0 14) (σ 0 15) (σ 0 16) (σ 0 20) (σ 0 21) (σ 0 22) (σ 0 30) (upd (σ 1) 0 ((σ 1 0) + r_1)) (σ 2) (σ 3) (σ 4)) (j := 0) hx hb hK hP hD hS 4 0 rfl rfl (by unfold vp_in; decide) rfl dN_addLateFee_46 rfl (fun H locs hP hD hS => ?_)
  have hk9 : kN_addLateFee σ = mkL (σ 0 0) (σ 0 1) (σ 0 2) (σ 0 3) (σ 0 4) (σ 0 5) (σ 0 6) (σ 0 10) (σ 0 11) (σ 0 12) (σ 0 13) (σ 0 14) (σ 0 15) (σ 0 16) (σ 0 20) (σ 0 21) (σ 0 22) (σ 0 30) (upd (σ 1) 0 ((σ 1 0) + r_1)) (σ 2) (σ 3) (σ 4) := by subst e_2; rfl
  exact kw_vret hx hb hr hlocks hK hP hD hS (kw_fin1 (f := lcells G a) (S := mkL (σ 0 0) (σ 0 1) (σ 0 2) (σ 0 3) (σ 0 4) (σ 0 5) (σ 0 6) (σ 0 10) (σ 0 11) (σ 0 12) (σ 0 13) (σ 0 14) (σ 0 15) (σ 0 16) (σ 0 20) (σ 0 21) (σ 0 22) (σ 0 30) (upd (σ 1) 0 ((σ 1 0) + r_1)) (σ 2) (σ 3) (σ 4)) rfl hk9) dN_addLateFee_47
def kN_partToBill (σ : KS) (interest : Int32) : Int32 := if (σ 0 5) < (σ 0 11) then (kmin ((σ 0 1) - (σ 1 2)) (kmax (0 : Int32) ((σ 0 2) - interest))) else ((σ 0 1) - (σ 1 2))
abbrev wgN_partToBill : List Cond := .code yN_partToBill cN_partToBill 3 (some .int) :: GW
abbrev rm_N_partToBill : Room := { frames := 1, cells := 0, slots := 0, locals := 14 }
set_option maxRecDepth 100000 in
set_option maxHeartbeats 4000000 in
theorem c_N_partToBill (l : Launch) (D : va_G) (G : Nat → ClassId) (a : Nat → Nat) (σ : KS) (interest : Int32) (sz : Nat)  : Met l yN_partToBill wgN_partToBill rm_N_partToBill (kw_Pc D vwCl (gt G) [.ref (a 0), .int interest] (lcells G a σ) sz) (kw_i D vwCl (gt G) (lcells G a σ) sz (kN_partToBill σ interest) (lcells G a σ)) 0 0 (va_A (lcells G a σ) sz) := by
  refine Met.ofW (cc := cN_partToBill) (maxL := 3) (ret := (some .int)) (by decide) rfl ?_
  intro p e s m args below meth c s₁ B hml hv
  have hx := B.exec
  have hb := B.bytes
  have hr := B.returns
  have hts := atoms_spec (ws := wgN_partToBill) B.pre
  have hg : ∀ w ∈ GW, w.before args s = true := fun w h => hts w (List.mem_cons_of_mem _ h)
  have hown : s.vm.findClass RN = some m.cls := findClass_of_methodNamed B.named
  have hlocks := B.notSynchronized
  obtain ⟨hv, hsz, hP, hK, hD0⟩ := hv
  subst hsz
  have hD := hD0.self (sz := s.heap.size)
  have hS : va_S (va_A (lcells G a σ) s.heap.size) s.heap s.heap [] := va_S.rf
  refine kw_entry [.ref (a 0), .int interest] hv (Nat.le_of_ble_eq_true rfl) (fun ls hl => ?_)
  have hl : lv_has ls 3 [(0, .ref (a 0)), (1, .int interest)] := hl
  refine lv_aload_n hx hb dN_partToBill_0 rfl (lv_at hl 0 rfl) ?_
  refine va_get (v := .int (σ 0 1)) hx hb hg hin_N hown hK hP 0 rfl rfl 6 (by decide) (hg _ gw_226) (fun _ h => h) rfl dN_partToBill_1 ?_
  refine lv_aload_n hx hb dN_partToBill_4 rfl (lv_at hl 0 rfl) ?_
  refine va_get (v := .ref (a 4)) hx hb hg hin_N hown hK hP 0 rfl rfl 3 (by decide) (hg _ gw_220) (fun _ h => h) rfl dN_partToBill_5 ?_
  refine lv_iconst (v := 2) hx hb dN_partToBill_8 (by decide) ?_
  refine kw_iald (v := σ 1 2) (j := 2) hx hb hK hP 4 0 rfl rfl (by unfold vp_in; decide) rfl rfl dN_partToBill_9 ?_
  refine lv_isub hx hb dN_partToBill_10 ?_
  refine lv_istore_n hx hb dN_partToBill_11 rfl hl (by decide) rfl (fun ls hl => ?_)
  have hl : lv_has ls 3 [(2, .int ((σ 0 1) - (σ 1 2))), (0, .ref (a 0)), (1, .int interest)] := hl
  refine lv_aload_n hx hb dN_partToBill_12 rfl (lv_at hl 1 rfl) ?_
  refine va_get (v := .int (σ 0 5)) hx hb hg hin_N hown hK hP 0 rfl rfl 10 (by decide) (hg _ gw_232) (fun _ h => h) rfl dN_partToBill_13 ?_
  refine lv_aload_n hx hb dN_partToBill_16 rfl (lv_at hl 1 rfl) ?_
  refine va_get (v := .ref (a 1)) hx hb hg hin_N hown hK hP 0 rfl rfl 0 (by decide) (hg _ gw_214) (fun _ h => h) rfl dN_partToBill_17 ?_
  refine va_get (v := .int (σ 0 11)) hx hb hg hin_T hown hK hP 1 rfl rfl 1 (by decide) (hg _ gw_143) (fun _ h => h) rfl dN_partToBill_20 ?_
  refine lv_icmp_lt (tgt := 28) hx hb dN_partToBill_23 (by decide) (fun h1 => ?_) (fun h1 => ?_)
  · skip
    refine lv_iload_n hx hb dN_partToBill_28 rfl (lv_at hl 0 rfl) ?_
    refine lv_iconst (v := 0) hx hb dN_partToBill_29 (by decide) ?_
    refine lv_aload_n hx hb dN_partToBill_30 rfl (lv_at hl 1 rfl) ?_
    refine va_get (v := .int (σ 0 2)) hx hb hg hin_N hown hK hP 0 rfl rfl 7 (by decide) (hg _ gw_228) (fun _ h => h) rfl dN_partToBill_31 ?_
    refine lv_iload_n hx hb dN_partToBill_34 rfl (lv_at hl 2 rfl) ?_
    refine lv_isub hx hb dN_partToBill_35 ?_
    refine kw_mmax hx hb (hml.trans hl.1.symm) hown (hg _ gw_371) (hg _ gw_356) (hg _ gw_13) (hg _ gw_357) (Nat.le_of_ble_eq_true rfl) (Nat.le_of_ble_eq_true rfl) (Nat.zero_le _) (Nat.zero_le _) dN_partToBill_36 ?_
    refine kw_mmin hx hb (hml.trans hl.1.symm) hown (hg _ gw_297) (hg _ gw_212) (hg _ gw_13) (hg _ gw_213) (Nat.le_of_ble_eq_true rfl) (Nat.le_of_ble_eq_true rfl) (Nat.zero_le _) (Nat.zero_le _) dN_partToBill_39 ?_
    have hk9 : kN_partToBill σ interest = kmin ((σ 0 1) - (σ 1 2)) (kmax (0 : Int32) ((σ 0 2) - interest)) := by unfold kN_partToBill; rw [if_pos h1]
    exact kw_iret hx hb hr hlocks hK hP hD hS ⟨hk9.symm, rfl⟩ dN_partToBill_42
  · skip
    refine lv_iload_n hx hb dN_partToBill_26 rfl (lv_at hl 0 rfl) ?_
    have hk9 : kN_partToBill σ interest = (σ 0 1) - (σ 1 2) := by unfold kN_partToBill; rw [if_neg h1]
    exact kw_iret hx hb hr hlocks hK hP hD hS ⟨hk9.symm, rfl⟩ dN_partToBill_27
def kN_makeBill (σ : KS) (today : Int32) : KS := if (σ 0 1) ≤ (0 : Int32) then (kB_add (mkL (σ 0 0) (σ 0 1) (σ 0 2) 0 (σ 0 4) (σ 0 5) (σ 0 6) (σ 0 10) (σ 0 11) (σ 0 12) (σ 0 13) (σ 0 14) (σ 0 15) (σ 0 16) (σ 0 20) (σ 0 21) (σ 0 22) (σ 0 30) (upd (upd (upd (σ 1) 1 ((σ 1 1) + (σ 0 3))) 2 ((σ 1 2) + (kN_partToBill σ (σ 0 3)))) 3 ((σ 1 3) + 0)) (σ 2) (σ 3) (σ 4)) today (σ 0 1) (σ 0 3) (kN_partToBill σ (σ 0 3)) (0 : Int32)) else (kB_add (mkL (σ 0 0) (σ 0 1) (σ 0 2) 0 (σ 0 4) (σ 0 5) (σ 0 6) (σ 0 10) (σ 0 11) (σ 0 12) (σ 0 13) (σ 0 14) (σ 0 15) (σ 0 16) (σ 0 20) (σ 0 21) (σ 0 22) (σ 0 30) (upd (upd (upd (σ 1) 1 ((σ 1 1) + (σ 0 3))) 2 ((σ 1 2) + (kN_partToBill σ (σ 0 3)))) 3 ((σ 1 3) + (σ 0 21))) (σ 2) (σ 3) (σ 4)) today (σ 0 1) (σ 0 3) (kN_partToBill σ (σ 0 3)) (σ 0 21))
abbrev wgN_makeBill : List Cond := .code yN_makeBill cN_makeBill 5 none :: GW
abbrev rm_N_makeBill : Room := { frames := 2, cells := 0, slots := 0, locals := 36 }
set_option maxRecDepth 100000 in
set_option maxHeartbeats 4000000 in
theorem c_N_makeBill (l : Launch) (D : va_G) (G : Nat → ClassId) (a : Nat → Nat) (σ : KS) (today : Int32) (sz : Nat) (cn : Nat) (hcn : σ 0 30 = nI cn) (hcl : cn ≤ 50) : Met l yN_makeBill wgN_makeBill rm_N_makeBill (kw_Pc D vwCl (gt G) [.ref (a 0), .int today] (lcells G a σ) sz) (kw_v D vwCl (gt G) (lcells G a σ) sz (lcells G a (kN_makeBill σ today))) 0 0 (va_A (lcells G a σ) sz) := by
  refine Met.ofW (cc := cN_makeBill) (maxL := 5) (ret := none) (by decide) rfl ?_
  intro p e s m args below meth c s₁ B hml hv
  have hx := B.exec
  have hb := B.bytes
  have hr := B.returns
  have hts := atoms_spec (ws := wgN_makeBill) B.pre
  have hg : ∀ w ∈ GW, w.before args s = true := fun w h => hts w (List.mem_cons_of_mem _ h)
  have hown : s.vm.findClass RN = some m.cls := findClass_of_methodNamed B.named
  have hlocks := B.notSynchronized
  obtain ⟨hv, hsz, hP, hK, hD0⟩ := hv
  subst hsz
  have hD := hD0.self (sz := s.heap.size)
  have hS : va_S (va_A (lcells G a σ) s.heap.size) s.heap s.heap [] := va_S.rf
  refine kw_entry [.ref (a 0), .int today] hv (Nat.le_of_ble_eq_true rfl) (fun ls hl => ?_)
  have hl : lv_has ls 5 [(0, .ref (a 0)), (1, .int today)] := hl
  refine lv_aload_n hx hb dN_makeBill_0 rfl (lv_at hl 0 rfl) ?_
  refine va_get (v := .int (σ 0 3)) hx hb hg hin_N hown hK hP 0 rfl rfl 8 (by decide) (hg _ gw_230) (fun _ h => h) rfl dN_makeBill_1 ?_
  refine lv_istore_n hx hb dN_makeBill_4 rfl hl (by decide) rfl (fun ls hl => ?_)
  have hl : lv_has ls 5 [(2, .int (σ 0 3)), (0, .ref (a 0)), (1, .int today)] := hl
  refine lv_aload_n hx hb dN_makeBill_5 rfl (lv_at hl 1 rfl) ?_
  refine lv_iload_n hx hb dN_makeBill_6 rfl (lv_at hl 0 rfl) ?_
  refine kw_reti0 (va_runV (C := RN) (As := [.int (σ 0 3)]) (rest := []) ⟨hx, hb, hml, hown, hg⟩ (c_N_partToBill l D G a σ (σ 0 3) _) ⟨kw_cB (n := 1) hg gw_370 gw_10 gw_368 (by decide +kernel) (by decide +kernel) ⟨Nat.le_of_ble_eq_true rfl, Nat.le_of_ble_eq_true rfl⟩ rfl rfl, hg _ gw_369, hg _ gw_741⟩ (kw_preV (q0 := 0) hK hP hD rfl rfl) rfl rfl hl.1 rfl (lv_room (Nat.le_of_ble_eq_true rfl)) dN_makeBill_7 ⟨Nat.le_of_ble_eq_true rfl, Nat.le_of_ble_eq_true rfl⟩) hP hD hS (fun _ h => Or.inr h) (fun H locs hP hD hS => ?_)
  refine lv_topi (fun r_1 e_2 => ?_)
  replace e_2 := e_2.symm
  refine lv_istore_n hx hb dN_makeBill_10 rfl hl (by decide) rfl (fun ls hl => ?_)
  have hl : lv_has ls 5 [(3, .int r_1), (2, .int (σ 0 3)), (0, .ref (a 0)), (1, .int today)] := hl
  refine lv_aload_n hx hb dN_makeBill_11 rfl (lv_at hl 2 rfl) ?_
  refine va_get (v := .int (σ 0 1)) hx hb hg hin_N hown hK hP 0 rfl rfl 6 (by decide) (hg _ gw_226) (fun _ h => h) rfl dN_makeBill_12 ?_
  refine lv_if_le (tgt := 28) hx hb dN_makeBill_15 (by decide) (fun h3 => ?_) (fun h3 => ?_)
  · skip
    refine lv_iconst (v := 0) hx hb dN_makeBill_28 (by decide) ?_
    refine lv_istore hx hb dN_makeBill_29 hl (by decide) rfl (fun ls hl => ?_)
    have hl : lv_has ls 5 [(4, .int 0), (3, .int r_1), (2, .int (σ 0 3)), (0, .ref (a 0)), (1, .int today)] := hl
    refine lv_aload_n hx hb dN_makeBill_31 rfl (lv_at hl 3 rfl) ?_
    refine lv_iconst (v := 0) hx hb dN_makeBill_32 (by decide) ?_
    refine kw_put (w' := lc G a (σ 0 0) (σ 0 1) (σ 0 2) 0 (σ 0 4) (σ 0 5) (σ 0 6) (σ 0 10) (σ 0 11) (σ 0 12) (σ 0 13) (σ 0 14) (σ 0 15) (σ 0 16) (σ 0 20) (σ 0 21) (σ 0 22) (σ 0 30) (σ 1) (σ 2) (σ 3) (σ 4)) (v := .int 0) (ty := .int) hx hb hg hin_N tyN tyN_ok nN hown hK hP hD hS 0 rfl rfl 8 (by decide) (hg _ gw_230) (fun _ h => h) rfl (by decide +kernel) rfl rfl (Nat.le_of_ble_eq_true rfl) dN_makeBill_33 rfl (fun H locs hP hD hS => ?_)
    refine lv_aload_n hx hb dN_makeBill_36 rfl (lv_at hl 3 rfl) ?_
    refine va_get (v := .ref (a 4)) hx hb hg hin_N hown hK hP 0 rfl rfl 3 (by decide) (hg _ gw_220) (fun _ h => h) rfl dN_makeBill_37 ?_
    refine lv_iconst (v := 1) hx hb dN_makeBill_40 (by decide) ?_
    refine lv_dup2_11 hx hb dN_makeBill_41 rfl rfl ?_
    refine kw_iald (v := σ 1 1) (j := 1) hx hb hK hP 4 0 rfl rfl (by unfold vp_in; decide) rfl rfl dN_makeBill_42 ?_
    refine lv_iload_n hx hb dN_makeBill_43 rfl (lv_at hl 2 rfl) ?_
    refine lv_iadd hx hb dN_makeBill_44 ?_
    refine kw_iast (w' := lc G a (σ 0 0) (σ 0 1) (σ 0 2) 0 (σ 0 4) (σ 0 5) (σ 0 6) (σ 0 10) (σ 0 11) (σ 0 12) (σ 0 13) (σ 0 14) (σ 0 15) (σ 0 16) (σ 0 20) (σ 0 21) (σ 0 22) (σ 0 30) (upd (σ 1) 1 ((σ 1 1) + (σ 0 3))) (σ 2) (σ 3) (σ 4)) (j := 1) hx hb hK hP hD hS 4 0 rfl rfl (by unfold vp_in; decide) rfl dN_makeBill_45 rfl (fun H locs hP hD hS => ?_)
    refine lv_aload_n hx hb dN_makeBill_46 rfl (lv_at hl 3 rfl) ?_
    refine va_get (v := .ref (a 4)) hx hb hg hin_N hown hK hP 0 rfl rfl 3 (by decide) (hg _ gw_220) (fun _ h => h) rfl dN_makeBill_47 ?_
    refine lv_iconst (v := 2) hx hb dN_makeBill_50 (by decide) ?_
    refine lv_dup2_11 hx hb dN_makeBill_51 rfl rfl ?_
    refine kw_iald (v := σ 1 2) (j := 2) hx hb hK hP 4 0 rfl rfl (by unfold vp_in; decide) rfl rfl dN_makeBill_52 ?_
    refine lv_iload_n hx hb dN_makeBill_53 rfl (lv_at hl 1 rfl) ?_
    refine lv_iadd hx hb dN_makeBill_54 ?_
    refine kw_iast (w' := lc G a (σ 0 0) (σ 0 1) (σ 0 2) 0 (σ 0 4) (σ 0 5) (σ 0 6) (σ 0 10) (σ 0 11) (σ 0 12) (σ 0 13) (σ 0 14) (σ 0 15) (σ 0 16) (σ 0 20) (σ 0 21) (σ 0 22) (σ 0 30) (upd (upd (σ 1) 1 ((σ 1 1) + (σ 0 3))) 2 ((σ 1 2) + r_1)) (σ 2) (σ 3) (σ 4)) (j := 2) hx hb hK hP hD hS 4 0 rfl rfl (by unfold vp_in; decide) rfl dN_makeBill_55 rfl (fun H locs hP hD hS => ?_)
    refine lv_aload_n hx hb dN_makeBill_56 rfl (lv_at hl 3 rfl) ?_
    refine va_get (v := .ref (a 4)) hx hb hg hin_N hown hK hP 0 rfl rfl 3 (by decide) (hg _ gw_220) (fun _ h => h) rfl dN_makeBill_57 ?_
    refine lv_iconst (v := 3) hx hb dN_makeBill_60 (by decide) ?_
    refine lv_dup2_11 hx hb dN_makeBill_61 rfl rfl ?_
    refine kw_iald (v := σ 1 3) (j := 3) hx hb hK hP 4 0 rfl rfl (by unfold vp_in; decide) rfl rfl dN_makeBill_62 ?_
    refine lv_iload hx hb dN_makeBill_63 (lv_at hl 0 rfl) ?_
    refine lv_iadd hx hb dN_makeBill_65 ?_
    refine kw_iast (w' := lc G a (σ 0 0) (σ 0 1) (σ 0 2) 0 (σ 0 4) (σ 0 5) (σ 0 6) (σ 0 10) (σ 0 11) (σ 0 12) (σ 0 13) (σ 0 14) (σ 0 15) (σ 0 16) (σ 0 20) (σ 0 21) (σ 0 22) (σ 0 30) (upd (upd (upd (σ 1) 1 ((σ 1 1) + (σ 0 3))) 2 ((σ 1 2) + r_1)) 3 ((σ 1 3) + 0)) (σ 2) (σ 3) (σ 4)) (j := 3) hx hb hK hP hD hS 4 0 rfl rfl (by unfold vp_in; decide) rfl dN_makeBill_66 rfl (fun H locs hP hD hS => ?_)
    refine lv_aload_n hx hb dN_makeBill_67 rfl (lv_at hl 3 rfl) ?_
    refine va_get (v := .ref (a 3)) hx hb hg hin_N hown hK hP 0 rfl rfl 2 (by decide) (hg _ gw_218) (fun _ h => h) rfl dN_makeBill_68 ?_
    refine lv_iload_n hx hb dN_makeBill_71 rfl (lv_at hl 4 rfl) ?_
    refine lv_aload_n hx hb dN_makeBill_72 rfl (lv_at hl 3 rfl) ?_
    refine va_get (v := .int (σ 0 1)) hx hb hg hin_N hown hK hP 0 rfl rfl 6 (by decide) (hg _ gw_226) (fun _ h => h) rfl dN_makeBill_73 ?_
    refine lv_iload_n hx hb dN_makeBill_76 rfl (lv_at hl 2 rfl) ?_
    refine lv_iload_n hx hb dN_makeBill_77 rfl (lv_at hl 1 rfl) ?_
    refine lv_iload hx hb dN_makeBill_78 (lv_at hl 0 rfl) ?_
    refine kw_retv0 (va_runV (C := RB) (As := [.int today, .int (σ 0 1), .int (σ 0 3), .int r_1, .int 0]) (rest := []) ⟨hx, hb, hml, hown, hg⟩ (c_B_add l D G a (mkL (σ 0 0) (σ 0 1) (σ 0 2) 0 (σ 0 4) (σ 0 5) (σ 0 6) (σ 0 10) (σ 0 11) (σ 0 12) (σ 0 13) (σ 0 14) (σ 0 15) (σ 0 16) (σ 0 20) (σ 0 21) (σ 0 22) (σ 0 30) (upd (upd (upd (σ 1) 1 ((σ 1 1) + (σ 0 3))) 2 ((σ 1 2) + r_1)) 3 ((σ 1 3) + 0)) (σ 2) (σ 3) (σ 4)) today (σ 0 1) (σ 0 3) r_1 (0 : Int32) _ cn hcn hcl) ⟨kw_cB (n := 5) hg gw_375 gw_12 gw_372 (by decide +kernel) (by decide +kernel) ⟨Nat.le_of_ble_eq_true rfl, Nat.le_of_ble_eq_true rfl⟩ rfl rfl, hg _ gw_373, hg _ gw_374⟩ (kw_preV (q0 := 3) hK hP hD rfl rfl) rfl rfl hl.1 rfl (lv_room (Nat.le_of_ble_eq_true rfl)) dN_makeBill_80 ⟨Nat.le_of_ble_eq_true rfl, Nat.le_of_ble_eq_true rfl⟩) hP hD hS (fun _ h => Or.inr h) (fun H locs hP hD hS => ?_)
    obtain ⟨S_4, e_5⟩ : ∃ z : KS, (kB_add (mkL (σ 0 0) (σ 0 1) (σ 0 2) 0 (σ 0 4) (σ 0 5) (σ 0 6) (σ 0 10) (σ 0 11) (σ 0 12) (σ 0 13) (σ 0 14) (σ 0 15) (σ 0 16) (σ 0 20) (σ 0 21) (σ 0 22) (σ 0 30) (upd (upd (upd (σ 1) 1 ((σ 1 1) + (σ 0 3))) 2 ((σ 1 2) + r_1)) 3 ((σ 1 3) + 0)) (σ 2) (σ 3) (σ 4)) today (σ 0 1) (σ 0 3) r_1 (0 : Int32)) = z := ⟨_, rfl⟩
    rw [e_5] at hP hD
    have hk9 : kN_makeBill σ today = S_4 := by subst e_2 e_5; unfold kN_makeBill; rw [if_pos h3]
    exact kw_vret hx hb hr hlocks hK hP hD hS (kw_fin1 (f := lcells G a) (S := S_4) rfl hk9) dN_makeBill_83
  · skip
    refine lv_aload_n hx hb dN_makeBill_18 rfl (lv_at hl 2 rfl) ?_
    refine va_get (v := .ref (a 2)) hx hb hg hin_N hown hK hP 0 rfl rfl 1 (by decide) (hg _ gw_216) (fun _ h => h) rfl dN_makeBill_19 ?_
    refine va_get (v := .int (σ 0 21)) hx hb hg hin_A hown hK hP 2 rfl rfl 1 (by decide) (hg _ gw_181) (fun _ h => h) rfl dN_makeBill_22 ?_
    refine lv_goto (tgt := 29) hx hb dN_makeBill_25 (by decide) ?_
    refine lv_istore hx hb dN_makeBill_29 hl (by decide) rfl (fun ls hl => ?_)
    have hl : lv_has ls 5 [(4, .int (σ 0 21)), (3, .int r_1), (2, .int (σ 0 3)), (0, .ref (a 0)), (1, .int today)] := hl
    refine lv_aload_n hx hb dN_makeBill_31 rfl (lv_at hl 3 rfl) ?_
    refine lv_iconst (v := 0) hx hb dN_makeBill_32 (by decide) ?_
    refine kw_put (w' := lc G a (σ 0 0) (σ 0 1) (σ 0 2) 0 (σ 0 4) (σ 0 5) (σ 0 6) (σ 0 10) (σ 0 11) (σ 0 12) (σ 0 13) (σ 0 14) (σ 0 15) (σ 0 16) (σ 0 20) (σ 0 21) (σ 0 22) (σ 0 30) (σ 1) (σ 2) (σ 3) (σ 4)) (v := .int 0) (ty := .int) hx hb hg hin_N tyN tyN_ok nN hown hK hP hD hS 0 rfl rfl 8 (by decide) (hg _ gw_230) (fun _ h => h) rfl (by decide +kernel) rfl rfl (Nat.le_of_ble_eq_true rfl) dN_makeBill_33 rfl (fun H locs hP hD hS => ?_)
    refine lv_aload_n hx hb dN_makeBill_36 rfl (lv_at hl 3 rfl) ?_
    refine va_get (v := .ref (a 4)) hx hb hg hin_N hown hK hP 0 rfl rfl 3 (by decide) (hg _ gw_220) (fun _ h => h) rfl dN_makeBill_37 ?_
    refine lv_iconst (v := 1) hx hb dN_makeBill_40 (by decide) ?_
    refine lv_dup2_11 hx hb dN_makeBill_41 rfl rfl ?_
    refine kw_iald (v := σ 1 1) (j := 1) hx hb hK hP 4 0 rfl rfl (by unfold vp_in; decide) rfl rfl dN_makeBill_42 ?_
    refine lv_iload_n hx hb dN_makeBill_43 rfl (lv_at hl 2 rfl) ?_
    refine lv_iadd hx hb dN_makeBill_44 ?_
    refine kw_iast (w' := lc G a (σ 0 0) (σ 0 1) (σ 0 2) 0 (σ 0 4) (σ 0 5) (σ 0 6) (σ 0 10) (σ 0 11) (σ 0 12) (σ 0 13) (σ 0 14) (σ 0 15) (σ 0 16) (σ 0 20) (σ 0 21) (σ 0 22) (σ 0 30) (upd (σ 1) 1 ((σ 1 1) + (σ 0 3))) (σ 2) (σ 3) (σ 4)) (j := 1) hx hb hK hP hD hS 4 0 rfl rfl (by unfold vp_in; decide) rfl dN_makeBill_45 rfl (fun H locs hP hD hS => ?_)
    refine lv_aload_n hx hb dN_makeBill_46 rfl (lv_at hl 3 rfl) ?_
    refine va_get (v := .ref (a 4)) hx hb hg hin_N hown hK hP 0 rfl rfl 3 (by decide) (hg _ gw_220) (fun _ h => h) rfl dN_makeBill_47 ?_
    refine lv_iconst (v := 2) hx hb dN_makeBill_50 (by decide) ?_
    refine lv_dup2_11 hx hb dN_makeBill_51 rfl rfl ?_
    refine kw_iald (v := σ 1 2) (j := 2) hx hb hK hP 4 0 rfl rfl (by unfold vp_in; decide) rfl rfl dN_makeBill_52 ?_
    refine lv_iload_n hx hb dN_makeBill_53 rfl (lv_at hl 1 rfl) ?_
    refine lv_iadd hx hb dN_makeBill_54 ?_
    refine kw_iast (w' := lc G a (σ 0 0) (σ 0 1) (σ 0 2) 0 (σ 0 4) (σ 0 5) (σ 0 6) (σ 0 10) (σ 0 11) (σ 0 12) (σ 0 13) (σ 0 14) (σ 0 15) (σ 0 16) (σ 0 20) (σ 0 21) (σ 0 22) (σ 0 30) (upd (upd (σ 1) 1 ((σ 1 1) + (σ 0 3))) 2 ((σ 1 2) + r_1)) (σ 2) (σ 3) (σ 4)) (j := 2) hx hb hK hP hD hS 4 0 rfl rfl (by unfold vp_in; decide) rfl dN_makeBill_55 rfl (fun H locs hP hD hS => ?_)
    refine lv_aload_n hx hb dN_makeBill_56 rfl (lv_at hl 3 rfl) ?_
    refine va_get (v := .ref (a 4)) hx hb hg hin_N hown hK hP 0 rfl rfl 3 (by decide) (hg _ gw_220) (fun _ h => h) rfl dN_makeBill_57 ?_
    refine lv_iconst (v := 3) hx hb dN_makeBill_60 (by decide) ?_
    refine lv_dup2_11 hx hb dN_makeBill_61 rfl rfl ?_
    refine kw_iald (v := σ 1 3) (j := 3) hx hb hK hP 4 0 rfl rfl (by unfold vp_in; decide) rfl rfl dN_makeBill_62 ?_
    refine lv_iload hx hb dN_makeBill_63 (lv_at hl 0 rfl) ?_
    refine lv_iadd hx hb dN_makeBill_65 ?_
    refine kw_iast (w' := lc G a (σ 0 0) (σ 0 1) (σ 0 2) 0 (σ 0 4) (σ 0 5) (σ 0 6) (σ 0 10) (σ 0 11) (σ 0 12) (σ 0 13) (σ 0 14) (σ 0 15) (σ 0 16) (σ 0 20) (σ 0 21) (σ 0 22) (σ 0 30) (upd (upd (upd (σ 1) 1 ((σ 1 1) + (σ 0 3))) 2 ((σ 1 2) + r_1)) 3 ((σ 1 3) + (σ 0 21))) (σ 2) (σ 3) (σ 4)) (j := 3) hx hb hK hP hD hS 4 0 rfl rfl (by unfold vp_in; decide) rfl dN_makeBill_66 rfl (fun H locs hP hD hS => ?_)
    refine lv_aload_n hx hb dN_makeBill_67 rfl (lv_at hl 3 rfl) ?_
    refine va_get (v := .ref (a 3)) hx hb hg hin_N hown hK hP 0 rfl rfl 2 (by decide) (hg _ gw_218) (fun _ h => h) rfl dN_makeBill_68 ?_
    refine lv_iload_n hx hb dN_makeBill_71 rfl (lv_at hl 4 rfl) ?_
    refine lv_aload_n hx hb dN_makeBill_72 rfl (lv_at hl 3 rfl) ?_
    refine va_get (v := .int (σ 0 1)) hx hb hg hin_N hown hK hP 0 rfl rfl 6 (by decide) (hg _ gw_226) (fun _ h => h) rfl dN_makeBill_73 ?_
    refine lv_iload_n hx hb dN_makeBill_76 rfl (lv_at hl 2 rfl) ?_
    refine lv_iload_n hx hb dN_makeBill_77 rfl (lv_at hl 1 rfl) ?_
    refine lv_iload hx hb dN_makeBill_78 (lv_at hl 0 rfl) ?_
    refine kw_retv0 (va_runV (C := RB) (As := [.int today, .int (σ 0 1), .int (σ 0 3), .int r_1, .int (σ 0 21)]) (rest := []) ⟨hx, hb, hml, hown, hg⟩ (c_B_add l D G a (mkL (σ 0 0) (σ 0 1) (σ 0 2) 0 (σ 0 4) (σ 0 5) (σ 0 6) (σ 0 10) (σ 0 11) (σ 0 12) (σ 0 13) (σ 0 14) (σ 0 15) (σ 0 16) (σ 0 20) (σ 0 21) (σ 0 22) (σ 0 30) (upd (upd (upd (σ 1) 1 ((σ 1 1) + (σ 0 3))) 2 ((σ 1 2) + r_1)) 3 ((σ 1 3) + (σ 0 21))) (σ 2) (σ 3) (σ 4)) today (σ 0 1) (σ 0 3) r_1 (σ 0 21) _ cn hcn hcl) ⟨kw_cB (n := 5) hg gw_375 gw_12 gw_372 (by decide +kernel) (by decide +kernel) ⟨Nat.le_of_ble_eq_true rfl, Nat.le_of_ble_eq_true rfl⟩ rfl rfl, hg _ gw_373, hg _ gw_374⟩ (kw_preV (q0 := 3) hK hP hD rfl rfl) rfl rfl hl.1 rfl (lv_room (Nat.le_of_ble_eq_true rfl)) dN_makeBill_80 ⟨Nat.le_of_ble_eq_true rfl, Nat.le_of_ble_eq_true rfl⟩) hP hD hS (fun _ h => Or.inr h) (fun H locs hP hD hS => ?_)
    obtain ⟨S_6, e_7⟩ : ∃ z : KS, (kB_add (mkL (σ 0 0) (σ 0 1) (σ 0 2) 0 (σ 0 4) (σ 0 5) (σ 0 6) (σ 0 10) (σ 0 11) (σ 0 12) (σ 0 13) (σ 0 14) (σ 0 15) (σ 0 16) (σ 0 20) (σ 0 21) (σ 0 22) (σ 0 30) (upd (upd (upd (σ 1) 1 ((σ 1 1) + (σ 0 3))) 2 ((σ 1 2) + r_1)) 3 ((σ 1 3) + (σ 0 21))) (σ 2) (σ 3) (σ 4)) today (σ 0 1) (σ 0 3) r_1 (σ 0 21)) = z := ⟨_, rfl⟩
    rw [e_7] at hP hD
    have hk9 : kN_makeBill σ today = S_6 := by subst e_2 e_7; unfold kN_makeBill; rw [if_neg h3]
    exact kw_vret hx hb hr hlocks hK hP hD hS (kw_fin1 (f := lcells G a) (S := S_6) rfl hk9) dN_makeBill_83
