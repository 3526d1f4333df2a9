/-! the static methods that touch no heap: what they answer -/
theorem kw_ne0 {x : Int64} (h : (0 : Int32) < lg_cmp x 0) : ¬ x = 0 := by
  rintro rfl
  exact absurd h (by decide)
def kD_within (value : Int32) (least : Int32) (most : Int32) : Int32 := if value < least then 0 else (if most < value then 0 else 1)
abbrev wgD_within : List Cond := .code yD_within cD_within 3 (some .boolean) :: GW
abbrev rm_D_within : Room := { frames := 0, cells := 0, slots := 0, locals := 0 }
set_option maxRecDepth 100000 in
set_option maxHeartbeats 4000000 in
theorem c_D_within (l : Launch) (value : Int32) (least : Int32) (most : Int32)  : Met l yD_within wgD_within rm_D_within (kp_Pc [.int value, .int least, .int most]) (vp_Si (fun x => x = (kD_within value least most))) 0 0 (fun _ => False) := by
  refine Met.ofW (cc := cD_within) (maxL := 3) (ret := (some .boolean)) (by decide) rfl ?_
  intro p e s m args below meth c s₁ B hml hv
  have hx := B.exec
  have hb := B.bytes
  have hr := B.returns
  have hts := atoms_spec (ws := wgD_within) B.pre
  have hg : ∀ w ∈ GW, w.before args s = true := fun w h => hts w (List.mem_cons_of_mem _ h)
  have hown : s.vm.findClass RD = some m.cls := findClass_of_methodNamed B.named
  have hlocks := B.notSynchronized
  refine kw_entry [.int value, .int least, .int most] hv (Nat.le_of_ble_eq_true rfl) (fun ls hl => ?_)
  have hl : lv_has ls 3 [(0, .int value), (1, .int least), (2, .int most)] := hl
  refine lv_iload_n hx hb dD_within_0 rfl (lv_at hl 0 rfl) ?_
  refine lv_iload_n hx hb dD_within_1 rfl (lv_at hl 1 rfl) ?_
  refine lv_icmp_lt (tgt := 14) hx hb dD_within_2 (by decide) (fun h1 => ?_) (fun h1 => ?_)
  · skip
    refine lv_iconst (v := 0) hx hb dD_within_14 (by decide) ?_
    have hk9 : kD_within value least most = 0 := by unfold kD_within; rw [if_pos h1]
    exact kp_zret hx hb hr (by decide) hlocks hk9.symm dD_within_15
  · skip
    refine lv_iload_n hx hb dD_within_5 rfl (lv_at hl 0 rfl) ?_
    refine lv_iload_n hx hb dD_within_6 rfl (lv_at hl 2 rfl) ?_
    refine lv_icmp_gt (tgt := 14) hx hb dD_within_7 (by decide) (fun h2 => ?_) (fun h2 => ?_)
    · skip
      refine lv_iconst (v := 0) hx hb dD_within_14 (by decide) ?_
      have hk9 : kD_within value least most = 0 := by unfold kD_within; rw [if_neg h1, if_pos h2]
      exact kp_zret hx hb hr (by decide) hlocks hk9.symm dD_within_15
    · skip
      refine lv_iconst (v := 1) hx hb dD_within_10 (by decide) ?_
      refine lv_goto (tgt := 15) hx hb dD_within_11 (by decide) ?_
      have hk9 : kD_within value least most = 1 := by unfold kD_within; rw [if_neg h1, if_neg h2]
      exact kp_zret hx hb hr (by decide) hlocks hk9.symm dD_within_15
def kY_monthOf (day : Int32) : Int32 := ((12 * ((4 * (day + 306)) / 1461)) + (((5 * ((day + 306) - (((1461 * ((4 * (day + 306)) / 1461)) + 3) / 4))) + 2) / 153)) - 10
abbrev wgY_monthOf : List Cond := .code yY_monthOf cY_monthOf 4 (some .int) :: GW
abbrev rm_Y_monthOf : Room := { frames := 0, cells := 0, slots := 0, locals := 0 }
set_option maxRecDepth 100000 in
set_option maxHeartbeats 4000000 in
theorem c_Y_monthOf (l : Launch) (day : Int32)  : Met l yY_monthOf wgY_monthOf rm_Y_monthOf (kp_Pc [.int day]) (vp_Si (fun x => x = (kY_monthOf day))) 0 0 (fun _ => False) := by
  refine Met.ofW (cc := cY_monthOf) (maxL := 4) (ret := (some .int)) (by decide) rfl ?_
  intro p e s m args below meth c s₁ B hml hv
  have hx := B.exec
  have hb := B.bytes
  have hr := B.returns
  have hts := atoms_spec (ws := wgY_monthOf) B.pre
  have hg : ∀ w ∈ GW, w.before args s = true := fun w h => hts w (List.mem_cons_of_mem _ h)
  have hown : s.vm.findClass RY = some m.cls := findClass_of_methodNamed B.named
  have hlocks := B.notSynchronized
  refine kw_entry [.int day] hv (Nat.le_of_ble_eq_true rfl) (fun ls hl => ?_)
  have hl : lv_has ls 4 [(0, .int day)] := hl
  refine lv_iload_n hx hb dY_monthOf_0 rfl (lv_at hl 0 rfl) ?_
  refine lv_sipush (v := 306) hx hb dY_monthOf_1 (by decide) ?_
  refine lv_iadd hx hb dY_monthOf_4 ?_
  refine lv_istore_n hx hb dY_monthOf_5 rfl hl (by decide) rfl (fun ls hl => ?_)
  have hl : lv_has ls 4 [(1, .int (day + 306)), (0, .int day)] := hl
  refine lv_iconst (v := 4) hx hb dY_monthOf_6 (by decide) ?_
  refine lv_iload_n hx hb dY_monthOf_7 rfl (lv_at hl 0 rfl) ?_
  refine lv_imul hx hb dY_monthOf_8 ?_
  refine lv_sipush (v := 1461) hx hb dY_monthOf_9 (by decide) ?_
  refine lv_idiv hx hb dY_monthOf_12 (by decide) ?_
  refine lv_istore_n hx hb dY_monthOf_13 rfl hl (by decide) rfl (fun ls hl => ?_)
  have hl : lv_has ls 4 [(2, .int ((4 * (day + 306)) / 1461)), (1, .int (day + 306)), (0, .int day)] := hl
  refine lv_iload_n hx hb dY_monthOf_14 rfl (lv_at hl 1 rfl) ?_
  refine lv_sipush (v := 1461) hx hb dY_monthOf_15 (by decide) ?_
  refine lv_iload_n hx hb dY_monthOf_18 rfl (lv_at hl 0 rfl) ?_
  refine lv_imul hx hb dY_monthOf_19 ?_
  refine lv_iconst (v := 3) hx hb dY_monthOf_20 (by decide) ?_
  refine lv_iadd hx hb dY_monthOf_21 ?_
  refine lv_iconst (v := 4) hx hb dY_monthOf_22 (by decide) ?_
  refine lv_idiv hx hb dY_monthOf_23 (by decide) ?_
  refine lv_isub hx hb dY_monthOf_24 ?_
  refine lv_istore_n hx hb dY_monthOf_25 rfl hl (by decide) rfl (fun ls hl => ?_)
  have hl : lv_has ls 4 [(3, .int ((day + 306) - (((1461 * ((4 * (day + 306)) / 1461)) + 3) / 4))), (2, .int ((4 * (day + 306)) / 1461)), (1, .int (day + 306)), (0, .int day)] := hl
  refine lv_bipush (v := 12) hx hb dY_monthOf_26 (by decide) ?_
  refine lv_iload_n hx hb dY_monthOf_28 rfl (lv_at hl 1 rfl) ?_
  refine lv_imul hx hb dY_monthOf_29 ?_
  refine lv_iconst (v := 5) hx hb dY_monthOf_30 (by decide) ?_
  refine lv_iload_n hx hb dY_monthOf_31 rfl (lv_at hl 0 rfl) ?_
  refine lv_imul hx hb dY_monthOf_32 ?_
  refine lv_iconst (v := 2) hx hb dY_monthOf_33 (by decide) ?_
  refine lv_iadd hx hb dY_monthOf_34 ?_
  refine lv_sipush (v := 153) hx hb dY_monthOf_35 (by decide) ?_
  refine lv_idiv hx hb dY_monthOf_38 (by decide) ?_
  refine lv_iadd hx hb dY_monthOf_39 ?_
  refine lv_bipush (v := 10) hx hb dY_monthOf_40 (by decide) ?_
  refine lv_isub hx hb dY_monthOf_42 ?_
  have hk9 : kY_monthOf day = ((12 * ((4 * (day + 306)) / 1461)) + (((5 * ((day + 306) - (((1461 * ((4 * (day + 306)) / 1461)) + 3) / 4))) + 2) / 153)) - 10 := by rfl
  exact kp_iret hx hb hr hlocks hk9.symm dY_monthOf_43
def kY_firstDayOf (month : Int32) : Int32 := ((((1461 * ((month + 10) / 12)) + 3) / 4) + (((153 * ((month + 10) - (month + 10) / 12 * 12)) + 2) / 5)) - 306
abbrev wgY_firstDayOf : List Cond := .code yY_firstDayOf cY_firstDayOf 4 (some .int) :: GW
abbrev rm_Y_firstDayOf : Room := { frames := 0, cells := 0, slots := 0, locals := 0 }
set_option maxRecDepth 100000 in
set_option maxHeartbeats 4000000 in
theorem c_Y_firstDayOf (l : Launch) (month : Int32)  : Met l yY_firstDayOf wgY_firstDayOf rm_Y_firstDayOf (kp_Pc [.int month]) (vp_Si (fun x => x = (kY_firstDayOf month))) 0 0 (fun _ => False) := by
  refine Met.ofW (cc := cY_firstDayOf) (maxL := 4) (ret := (some .int)) (by decide) rfl ?_
  intro p e s m args below meth c s₁ B hml hv
  have hx := B.exec
  have hb := B.bytes
  have hr := B.returns
  have hts := atoms_spec (ws := wgY_firstDayOf) B.pre
  have hg : ∀ w ∈ GW, w.before args s = true := fun w h => hts w (List.mem_cons_of_mem _ h)
  have hown : s.vm.findClass RY = some m.cls := findClass_of_methodNamed B.named
  have hlocks := B.notSynchronized
  refine kw_entry [.int month] hv (Nat.le_of_ble_eq_true rfl) (fun ls hl => ?_)
  have hl : lv_has ls 4 [(0, .int month)] := hl
  refine lv_iload_n hx hb dY_firstDayOf_0 rfl (lv_at hl 0 rfl) ?_
  refine lv_bipush (v := 10) hx hb dY_firstDayOf_1 (by decide) ?_
  refine lv_iadd hx hb dY_firstDayOf_3 ?_
  refine lv_istore_n hx hb dY_firstDayOf_4 rfl hl (by decide) rfl (fun ls hl => ?_)
  have hl : lv_has ls 4 [(1, .int (month + 10)), (0, .int month)] := hl
  refine lv_iload_n hx hb dY_firstDayOf_5 rfl (lv_at hl 0 rfl) ?_
  refine lv_bipush (v := 12) hx hb dY_firstDayOf_6 (by decide) ?_
  refine lv_idiv hx hb dY_firstDayOf_8 (by decide) ?_
  refine lv_istore_n hx hb dY_firstDayOf_9 rfl hl (by decide) rfl (fun ls hl => ?_)
  have hl : lv_has ls 4 [(2, .int ((month + 10) / 12)), (1, .int (month + 10)), (0, .int month)] := hl
  refine lv_iload_n hx hb dY_firstDayOf_10 rfl (lv_at hl 1 rfl) ?_
  refine lv_bipush (v := 12) hx hb dY_firstDayOf_11 (by decide) ?_
  refine lv_irem hx hb dY_firstDayOf_13 (by decide) ?_
  refine lv_istore_n hx hb dY_firstDayOf_14 rfl hl (by decide) rfl (fun ls hl => ?_)
  have hl : lv_has ls 4 [(3, .int ((month + 10) - (month + 10) / 12 * 12)), (2, .int ((month + 10) / 12)), (1, .int (month + 10)), (0, .int month)] := hl
  refine lv_sipush (v := 1461) hx hb dY_firstDayOf_15 (by decide) ?_
  refine lv_iload_n hx hb dY_firstDayOf_18 rfl (lv_at hl 1 rfl) ?_
  refine lv_imul hx hb dY_firstDayOf_19 ?_
  refine lv_iconst (v := 3) hx hb dY_firstDayOf_20 (by decide) ?_
  refine lv_iadd hx hb dY_firstDayOf_21 ?_
  refine lv_iconst (v := 4) hx hb dY_firstDayOf_22 (by decide) ?_
  refine lv_idiv hx hb dY_firstDayOf_23 (by decide) ?_
  refine lv_sipush (v := 153) hx hb dY_firstDayOf_24 (by decide) ?_
  refine lv_iload_n hx hb dY_firstDayOf_27 rfl (lv_at hl 0 rfl) ?_
  refine lv_imul hx hb dY_firstDayOf_28 ?_
  refine lv_iconst (v := 2) hx hb dY_firstDayOf_29 (by decide) ?_
  refine lv_iadd hx hb dY_firstDayOf_30 ?_
  refine lv_iconst (v := 5) hx hb dY_firstDayOf_31 (by decide) ?_
  refine lv_idiv hx hb dY_firstDayOf_32 (by decide) ?_
  refine lv_iadd hx hb dY_firstDayOf_33 ?_
  refine lv_sipush (v := 306) hx hb dY_firstDayOf_34 (by decide) ?_
  refine lv_isub hx hb dY_firstDayOf_37 ?_
  have hk9 : kY_firstDayOf month = ((((1461 * ((month + 10) / 12)) + 3) / 4) + (((153 * ((month + 10) - (month + 10) / 12 * 12)) + 2) / 5)) - 306 := by rfl
  exact kp_iret hx hb hr hlocks hk9.symm dY_firstDayOf_38
def kY_numberInMonth (day : Int32) : Int32 := (day - (kY_firstDayOf (kY_monthOf day))) + 1
abbrev wgY_numberInMonth : List Cond := .code yY_numberInMonth cY_numberInMonth 1 (some .int) :: GW
abbrev rm_Y_numberInMonth : Room := { frames := 1, cells := 0, slots := 0, locals := 23 }
set_option maxRecDepth 100000 in
set_option maxHeartbeats 4000000 in
theorem c_Y_numberInMonth (l : Launch) (day : Int32)  : Met l yY_numberInMonth wgY_numberInMonth rm_Y_numberInMonth (kp_Pc [.int day]) (vp_Si (fun x => x = (kY_numberInMonth day))) 0 0 (fun _ => False) := by
  refine Met.ofW (cc := cY_numberInMonth) (maxL := 1) (ret := (some .int)) (by decide) rfl ?_
  intro p e s m args below meth c s₁ B hml hv
  have hx := B.exec
  have hb := B.bytes
  have hr := B.returns
  have hts := atoms_spec (ws := wgY_numberInMonth) B.pre
  have hg : ∀ w ∈ GW, w.before args s = true := fun w h => hts w (List.mem_cons_of_mem _ h)
  have hown : s.vm.findClass RY = some m.cls := findClass_of_methodNamed B.named
  have hlocks := B.notSynchronized
  refine kw_entry [.int day] hv (Nat.le_of_ble_eq_true rfl) (fun ls hl => ?_)
  have hl : lv_has ls 1 [(0, .int day)] := hl
  refine lv_iload_n hx hb dY_numberInMonth_0 rfl (lv_at hl 0 rfl) ?_
  refine lv_iload_n hx hb dY_numberInMonth_1 rfl (lv_at hl 0 rfl) ?_
  refine kp_reti (va_runS (As := [.int day]) (rest := [.int day]) ⟨hx, hb, hml, hown, hg⟩ (c_Y_monthOf l day) ⟨kw_cB (n := 1) hg gw_43 gw_9 gw_47 (by decide +kernel) (by decide +kernel) ⟨Nat.le_of_ble_eq_true rfl, Nat.le_of_ble_eq_true rfl⟩ rfl rfl, hg _ gw_42⟩ kp_pre rfl rfl hl.1 rfl (lv_room (Nat.le_of_ble_eq_true rfl)) dY_numberInMonth_2 ⟨Nat.le_of_ble_eq_true rfl, Nat.le_of_ble_eq_true rfl⟩) ?_
  refine lv_topi (fun r_1 e_2 => ?_)
  replace e_2 := e_2.symm
  refine kp_reti (va_runS (As := [.int r_1]) (rest := [.int day]) ⟨hx, hb, hml, hown, hg⟩ (c_Y_firstDayOf l r_1) ⟨kw_cB (n := 1) hg gw_50 gw_9 gw_48 (by decide +kernel) (by decide +kernel) ⟨Nat.le_of_ble_eq_true rfl, Nat.le_of_ble_eq_true rfl⟩ rfl rfl, hg _ gw_49⟩ kp_pre rfl rfl hl.1 rfl (lv_room (Nat.le_of_ble_eq_true rfl)) dY_numberInMonth_5 ⟨Nat.le_of_ble_eq_true rfl, Nat.le_of_ble_eq_true rfl⟩) ?_
  refine lv_topi (fun r_3 e_4 => ?_)
  replace e_4 := e_4.symm
  refine lv_isub hx hb dY_numberInMonth_8 ?_
  refine lv_iconst (v := 1) hx hb dY_numberInMonth_9 (by decide) ?_
  refine lv_iadd hx hb dY_numberInMonth_10 ?_
  have hk9 : kY_numberInMonth day = (day - r_3) + 1 := by subst e_2 e_4; rfl
  exact kp_iret hx hb hr hlocks hk9.symm dY_numberInMonth_11
def kY_thirties (day : Int32) : Int32 := (30 * (kY_monthOf day)) + (kmin ((day - (kY_firstDayOf (kY_monthOf day))) + 1) (30 : Int32))
abbrev wgY_thirties : List Cond := .code yY_thirties cY_thirties 3 (some .int) :: GW
abbrev rm_Y_thirties : Room := { frames := 1, cells := 0, slots := 0, locals := 23 }
set_option maxRecDepth 100000 in
set_option maxHeartbeats 4000000 in
theorem c_Y_thirties (l : Launch) (day : Int32)  : Met l yY_thirties wgY_thirties rm_Y_thirties (kp_Pc [.int day]) (vp_Si (fun x => x = (kY_thirties day))) 0 0 (fun _ => False) := by
  refine Met.ofW (cc := cY_thirties) (maxL := 3) (ret := (some .int)) (by decide) rfl ?_
  intro p e s m args below meth c s₁ B hml hv
  have hx := B.exec
  have hb := B.bytes
  have hr := B.returns
  have hts := atoms_spec (ws := wgY_thirties) B.pre
  have hg : ∀ w ∈ GW, w.before args s = true := fun w h => hts w (List.mem_cons_of_mem _ h)
  have hown : s.vm.findClass RY = some m.cls := findClass_of_methodNamed B.named
  have hlocks := B.notSynchronized
  refine kw_entry [.int day] hv (Nat.le_of_ble_eq_true rfl) (fun ls hl => ?_)
  have hl : lv_has ls 3 [(0, .int day)] := hl
  refine lv_iload_n hx hb dY_thirties_0 rfl (lv_at hl 0 rfl) ?_
  refine kp_reti (va_runS (As := [.int day]) (rest := []) ⟨hx, hb, hml, hown, hg⟩ (c_Y_monthOf l day) ⟨kw_cB (n := 1) hg gw_43 gw_9 gw_47 (by decide +kernel) (by decide +kernel) ⟨Nat.le_of_ble_eq_true rfl, Nat.le_of_ble_eq_true rfl⟩ rfl rfl, hg _ gw_42⟩ kp_pre rfl rfl hl.1 rfl (lv_room (Nat.le_of_ble_eq_true rfl)) dY_thirties_1 ⟨Nat.le_of_ble_eq_true rfl, Nat.le_of_ble_eq_true rfl⟩) ?_
  refine lv_topi (fun r_1 e_2 => ?_)
  replace e_2 := e_2.symm
  refine lv_istore_n hx hb dY_thirties_4 rfl hl (by decide) rfl (fun ls hl => ?_)
  have hl : lv_has ls 3 [(1, .int r_1), (0, .int day)] := hl
  refine lv_iload_n hx hb dY_thirties_5 rfl (lv_at hl 1 rfl) ?_
  refine lv_iload_n hx hb dY_thirties_6 rfl (lv_at hl 0 rfl) ?_
  refine kp_reti (va_runS (As := [.int r_1]) (rest := [.int day]) ⟨hx, hb, hml, hown, hg⟩ (c_Y_firstDayOf l r_1) ⟨kw_cB (n := 1) hg gw_50 gw_9 gw_48 (by decide +kernel) (by decide +kernel) ⟨Nat.le_of_ble_eq_true rfl, Nat.le_of_ble_eq_true rfl⟩ rfl rfl, hg _ gw_49⟩ kp_pre rfl rfl hl.1 rfl (lv_room (Nat.le_of_ble_eq_true rfl)) dY_thirties_7 ⟨Nat.le_of_ble_eq_true rfl, Nat.le_of_ble_eq_true rfl⟩) ?_
  refine lv_topi (fun r_3 e_4 => ?_)
  replace e_4 := e_4.symm
  refine lv_isub hx hb dY_thirties_10 ?_
  refine lv_iconst (v := 1) hx hb dY_thirties_11 (by decide) ?_
  refine lv_iadd hx hb dY_thirties_12 ?_
  refine lv_istore_n hx hb dY_thirties_13 rfl hl (by decide) rfl (fun ls hl => ?_)
  have hl : lv_has ls 3 [(2, .int ((day - r_3) + 1)), (1, .int r_1), (0, .int day)] := hl
  refine lv_bipush (v := 30) hx hb dY_thirties_14 (by decide) ?_
  refine lv_iload_n hx hb dY_thirties_16 rfl (lv_at hl 1 rfl) ?_
  refine lv_imul hx hb dY_thirties_17 ?_
  refine lv_iload_n hx hb dY_thirties_18 rfl (lv_at hl 0 rfl) ?_
  refine lv_bipush (v := 30) hx hb dY_thirties_19 (by decide) ?_
  refine kw_mmin hx hb (hml.trans hl.1.symm) hown (hg _ gw_275) (hg _ gw_212) (hg _ gw_13) (hg _ gw_213) (Nat.le_of_ble_eq_true rfl) (Nat.le_of_ble_eq_true rfl) (Nat.zero_le _) (Nat.zero_le _) dY_thirties_21 ?_
  refine lv_iadd hx hb dY_thirties_24 ?_
  have hk9 : kY_thirties day = (30 * r_1) + (kmin ((day - r_3) + 1) (30 : Int32)) := by subst e_2 e_4; rfl
  exact kp_iret hx hb hr hlocks hk9.symm dY_thirties_25
def kY_inLongYears (day : Int32) : Int32 := ((day / 1461) * 366) + (kmin (day - day / 1461 * 1461) (366 : Int32))
abbrev wgY_inLongYears : List Cond := .code yY_inLongYears cY_inLongYears 1 (some .int) :: GW
abbrev rm_Y_inLongYears : Room := { frames := 1, cells := 0, slots := 0, locals := 14 }
set_option maxRecDepth 100000 in
set_option maxHeartbeats 4000000 in
theorem c_Y_inLongYears (l : Launch) (day : Int32)  : Met l yY_inLongYears wgY_inLongYears rm_Y_inLongYears (kp_Pc [.int day]) (vp_Si (fun x => x = (kY_inLongYears day))) 0 0 (fun _ => False) := by
  refine Met.ofW (cc := cY_inLongYears) (maxL := 1) (ret := (some .int)) (by decide) rfl ?_
  intro p e s m args below meth c s₁ B hml hv
  have hx := B.exec
  have hb := B.bytes
  have hr := B.returns
  have hts := atoms_spec (ws := wgY_inLongYears) B.pre
  have hg : ∀ w ∈ GW, w.before args s = true := fun w h => hts w (List.mem_cons_of_mem _ h)
  have hown : s.vm.findClass RY = some m.cls := findClass_of_methodNamed B.named
  have hlocks := B.notSynchronized
  refine kw_entry [.int day] hv (Nat.le_of_ble_eq_true rfl) (fun ls hl => ?_)
  have hl : lv_has ls 1 [(0, .int day)] := hl
  refine lv_iload_n hx hb dY_inLongYears_0 rfl (lv_at hl 0 rfl) ?_
  refine lv_sipush (v := 1461) hx hb dY_inLongYears_1 (by decide) ?_
  refine lv_idiv hx hb dY_inLongYears_4 (by decide) ?_
  refine lv_sipush (v := 366) hx hb dY_inLongYears_5 (by decide) ?_
  refine lv_imul hx hb dY_inLongYears_8 ?_
  refine lv_iload_n hx hb dY_inLongYears_9 rfl (lv_at hl 0 rfl) ?_
  refine lv_sipush (v := 1461) hx hb dY_inLongYears_10 (by decide) ?_
  refine lv_irem hx hb dY_inLongYears_13 (by decide) ?_
  refine lv_sipush (v := 366) hx hb dY_inLongYears_14 (by decide) ?_
  refine kw_mmin hx hb (hml.trans hl.1.symm) hown (hg _ gw_275) (hg _ gw_212) (hg _ gw_13) (hg _ gw_213) (Nat.le_of_ble_eq_true rfl) (Nat.le_of_ble_eq_true rfl) (Nat.zero_le _) (Nat.zero_le _) dY_inLongYears_17 ?_
  refine lv_iadd hx hb dY_inLongYears_20 ?_
  have hk9 : kY_inLongYears day = ((day / 1461) * 366) + (kmin (day - day / 1461 * 1461) (366 : Int32)) := by rfl
  exact kp_iret hx hb hr hlocks hk9.symm dY_inLongYears_21
def kS_top (rule : Int32) (a : Int32) (b : Int32) : Int32 := if rule = (2 : Int32) then ((kY_thirties b) - (kY_thirties a)) else (if rule = (3 : Int32) then ((((kY_inLongYears b) - (kY_inLongYears a)) * 365) + (((b - a) - ((kY_inLongYears b) - (kY_inLongYears a))) * 366)) else (b - a))
abbrev wgS_top : List Cond := .code yS_top cS_top 4 (some .int) :: GW
abbrev rm_S_top : Room := { frames := 2, cells := 0, slots := 0, locals := 45 }
set_option maxRecDepth 100000 in
set_option maxHeartbeats 4000000 in
theorem c_S_top (l : Launch) (rule : Int32) (a : Int32) (b : Int32)  : Met l yS_top wgS_top rm_S_top (kp_Pc [.int rule, .int a, .int b]) (vp_Si (fun x => x = (kS_top rule a b))) 0 0 (fun _ => False) := by
  refine Met.ofW (cc := cS_top) (maxL := 4) (ret := (some .int)) (by decide) rfl ?_
  intro p e s m args below meth c s₁ B hml hv
  have hx := B.exec
  have hb := B.bytes
  have hr := B.returns
  have hts := atoms_spec (ws := wgS_top) B.pre
  have hg : ∀ w ∈ GW, w.before args s = true := fun w h => hts w (List.mem_cons_of_mem _ h)
  have hown : s.vm.findClass RS = some m.cls := findClass_of_methodNamed B.named
  have hlocks := B.notSynchronized
  refine kw_entry [.int rule, .int a, .int b] hv (Nat.le_of_ble_eq_true rfl) (fun ls hl => ?_)
  have hl : lv_has ls 4 [(0, .int rule), (1, .int a), (2, .int b)] := hl
  refine lv_iload_n hx hb dS_top_0 rfl (lv_at hl 0 rfl) ?_
  by_cases h1 : rule = (2 : Int32)
  · skip
    refine lv_lookup (off := 27) (tgt := 28) hx hb dS_top_1 (by decide) (by rw [h1]; decide) (by decide) ?_
    refine lv_iload_n hx hb dS_top_28 rfl (lv_at hl 2 rfl) ?_
    refine kp_reti (va_runS (As := [.int b]) (rest := []) ⟨hx, hb, hml, hown, hg⟩ (c_Y_thirties l b) ⟨kw_cB (n := 1) hg gw_274 gw_9 gw_272 (by decide +kernel) (by decide +kernel) ⟨Nat.le_of_ble_eq_true rfl, Nat.le_of_ble_eq_true rfl⟩ rfl rfl, hg _ gw_273⟩ kp_pre rfl rfl hl.1 rfl (lv_room (Nat.le_of_ble_eq_true rfl)) dS_top_29 ⟨Nat.le_of_ble_eq_true rfl, Nat.le_of_ble_eq_true rfl⟩) ?_
    refine lv_topi (fun r_2 e_3 => ?_)
    replace e_3 := e_3.symm
    refine lv_iload_n hx hb dS_top_32 rfl (lv_at hl 1 rfl) ?_
    refine kp_reti (va_runS (As := [.int a]) (rest := [.int r_2]) ⟨hx, hb, hml, hown, hg⟩ (c_Y_thirties l a) ⟨kw_cB (n := 1) hg gw_274 gw_9 gw_272 (by decide +kernel) (by decide +kernel) ⟨Nat.le_of_ble_eq_true rfl, Nat.le_of_ble_eq_true rfl⟩ rfl rfl, hg _ gw_273⟩ kp_pre rfl rfl hl.1 rfl (lv_room (Nat.le_of_ble_eq_true rfl)) dS_top_33 ⟨Nat.le_of_ble_eq_true rfl, Nat.le_of_ble_eq_true rfl⟩) ?_
    refine lv_topi (fun r_4 e_5 => ?_)
    replace e_5 := e_5.symm
    refine lv_isub hx hb dS_top_36 ?_
    have hk9 : kS_top rule a b = r_2 - r_4 := by subst e_3 e_5; unfold kS_top; rw [if_pos h1]
    exact kp_iret hx hb hr hlocks hk9.symm dS_top_37
  by_cases h6 : rule = (3 : Int32)
  · skip
    refine lv_lookup (off := 37) (tgt := 38) hx hb dS_top_1 (by decide) ((lv_osw h1 (by decide)).trans (by rw [h6]; decide)) (by decide) ?_
    refine lv_iload_n hx hb dS_top_38 rfl (lv_at hl 2 rfl) ?_
    refine kp_reti (va_runS (As := [.int b]) (rest := []) ⟨hx, hb, hml, hown, hg⟩ (c_Y_inLongYears l b) ⟨kw_cB (n := 1) hg gw_278 gw_9 gw_276 (by decide +kernel) (by decide +kernel) ⟨Nat.le_of_ble_eq_true rfl, Nat.le_of_ble_eq_true rfl⟩ rfl rfl, hg _ gw_277⟩ kp_pre rfl rfl hl.1 rfl (lv_room (Nat.le_of_ble_eq_true rfl)) dS_top_39 ⟨Nat.le_of_ble_eq_true rfl, Nat.le_of_ble_eq_true rfl⟩) ?_
    refine lv_topi (fun r_7 e_8 => ?_)
    replace e_8 := e_8.symm
    refine lv_iload_n hx hb dS_top_42 rfl (lv_at hl 1 rfl) ?_
    refine kp_reti (va_runS (As := [.int a]) (rest := [.int r_7]) ⟨hx, hb, hml, hown, hg⟩ (c_Y_inLongYears l a) ⟨kw_cB (n := 1) hg gw_278 gw_9 gw_276 (by decide +kernel) (by decide +kernel) ⟨Nat.le_of_ble_eq_true rfl, Nat.le_of_ble_eq_true rfl⟩ rfl rfl, hg _ gw_277⟩ kp_pre rfl rfl hl.1 rfl (lv_room (Nat.le_of_ble_eq_true rfl)) dS_top_43 ⟨Nat.le_of_ble_eq_true rfl, Nat.le_of_ble_eq_true rfl⟩) ?_
    refine lv_topi (fun r_9 e_10 => ?_)
    replace e_10 := e_10.symm
    refine lv_isub hx hb dS_top_46 ?_
    refine lv_istore_n hx hb dS_top_47 rfl hl (by decide) rfl (fun ls hl => ?_)
    have hl : lv_has ls 4 [(3, .int (r_7 - r_9)), (0, .int rule), (1, .int a), (2, .int b)] := hl
    refine lv_iload_n hx hb dS_top_48 rfl (lv_at hl 0 rfl) ?_
    refine lv_sipush (v := 365) hx hb dS_top_49 (by decide) ?_
    refine lv_imul hx hb dS_top_52 ?_
    refine lv_iload_n hx hb dS_top_53 rfl (lv_at hl 3 rfl) ?_
    refine lv_iload_n hx hb dS_top_54 rfl (lv_at hl 2 rfl) ?_
    refine lv_isub hx hb dS_top_55 ?_
    refine lv_iload_n hx hb dS_top_56 rfl (lv_at hl 0 rfl) ?_
    refine lv_isub hx hb dS_top_57 ?_
    refine lv_sipush (v := 366) hx hb dS_top_58 (by decide) ?_
    refine lv_imul hx hb dS_top_61 ?_
    refine lv_iadd hx hb dS_top_62 ?_
    have hk9 : kS_top rule a b = ((r_7 - r_9) * 365) + (((b - a) - (r_7 - r_9)) * 366) := by subst e_8 e_10; unfold kS_top; rw [if_neg h1, if_pos h6]
    exact kp_iret hx hb hr hlocks hk9.symm dS_top_63
  refine lv_lookup (off := 63) (tgt := 64) hx hb dS_top_1 (by decide) ((lv_osw h1 (by decide)).trans ((lv_osw h6 (by decide)).trans (rfl))) (by decide) ?_
  refine lv_iload_n hx hb dS_top_64 rfl (lv_at hl 2 rfl) ?_
  refine lv_iload_n hx hb dS_top_65 rfl (lv_at hl 1 rfl) ?_
  refine lv_isub hx hb dS_top_66 ?_
  have hk9 : kS_top rule a b = b - a := by unfold kS_top; rw [if_neg h1, if_neg h6]
  exact kp_iret hx hb hr hlocks hk9.symm dS_top_67
def kS_bottom (rule : Int32) : Int32 := if rule = (0 : Int32) then 365 else (if rule = (3 : Int32) then 133590 else 360)
abbrev wgS_bottom : List Cond := .code yS_bottom cS_bottom 1 (some .int) :: GW
abbrev rm_S_bottom : Room := { frames := 0, cells := 0, slots := 0, locals := 0 }
set_option maxRecDepth 100000 in
set_option maxHeartbeats 4000000 in
theorem c_S_bottom (l : Launch) (rule : Int32)  : Met l yS_bottom wgS_bottom rm_S_bottom (kp_Pc [.int rule]) (vp_Si (fun x => x = (kS_bottom rule))) 0 0 (fun _ => False) := by
  refine Met.ofW (cc := cS_bottom) (maxL := 1) (ret := (some .int)) (by decide) rfl ?_
  intro p e s m args below meth c s₁ B hml hv
  have hx := B.exec
  have hb := B.bytes
  have hr := B.returns
  have hts := atoms_spec (ws := wgS_bottom) B.pre
  have hg : ∀ w ∈ GW, w.before args s = true := fun w h => hts w (List.mem_cons_of_mem _ h)
  have hown : s.vm.findClass RS = some m.cls := findClass_of_methodNamed B.named
  have hlocks := B.notSynchronized
  refine kw_entry [.int rule] hv (Nat.le_of_ble_eq_true rfl) (fun ls hl => ?_)
  have hl : lv_has ls 1 [(0, .int rule)] := hl
  refine lv_iload_n hx hb dS_bottom_0 rfl (lv_at hl 0 rfl) ?_
  by_cases h1 : rule = (0 : Int32)
  · skip
    refine lv_lookup (off := 27) (tgt := 28) hx hb dS_bottom_1 (by decide) (by rw [h1]; decide) (by decide) ?_
    refine lv_sipush (v := 365) hx hb dS_bottom_28 (by decide) ?_
    have hk9 : kS_bottom rule = 365 := by unfold kS_bottom; rw [if_pos h1]
    exact kp_iret hx hb hr hlocks hk9.symm dS_bottom_31
  by_cases h2 : rule = (3 : Int32)
  · skip
    refine lv_lookup (off := 31) (tgt := 32) hx hb dS_bottom_1 (by decide) ((lv_osw h1 (by decide)).trans (by rw [h2]; decide)) (by decide) ?_
    refine lv_ldc (v := 133590) hx hb hown (hg _ gw_289) dS_bottom_32 ?_
    have hk9 : kS_bottom rule = 133590 := by unfold kS_bottom; rw [if_neg h1, if_pos h2]
    exact kp_iret hx hb hr hlocks hk9.symm dS_bottom_34
  refine lv_lookup (off := 34) (tgt := 35) hx hb dS_bottom_1 (by decide) ((lv_osw h1 (by decide)).trans ((lv_osw h2 (by decide)).trans (rfl))) (by decide) ?_
  refine lv_sipush (v := 360) hx hb dS_bottom_35 (by decide) ?_
  have hk9 : kS_bottom rule = 360 := by unfold kS_bottom; rw [if_neg h1, if_neg h2]
  exact kp_iret hx hb hr hlocks hk9.symm dS_bottom_38
def kC_rounded (top : Int64) (bottom : Int64) (rounding : Int32) : Int32 := if (0 : Int32) < (lg_cmp bottom 0) then (if rounding = (0 : Int32) then ((top / bottom).toInt32) else (if rounding = (1 : Int32) then (if (lg_cmp (top - top / bottom * bottom) 0) ≤ (0 : Int32) then ((top / bottom).toInt32) else (((top / bottom) + 1).toInt32)) else (if rounding = (2 : Int32) then (if (lg_cmp (2 * (top - top / bottom * bottom)) bottom) < (0 : Int32) then ((top / bottom).toInt32) else (((top / bottom) + 1).toInt32)) else (if (0 : Int32) < (lg_cmp (2 * (top - top / bottom * bottom)) bottom) then (((top / bottom) + 1).toInt32) else (if (lg_cmp (2 * (top - top / bottom * bottom)) bottom) = (0 : Int32) then (if (lg_cmp ((top / bottom) - (top / bottom) / 2 * 2) 1) = (0 : Int32) then (((top / bottom) + 1).toInt32) else ((top / bottom).toInt32)) else ((top / bottom).toInt32)))))) else 0
abbrev wgC_rounded : List Cond := .code yC_rounded cC_rounded 10 (some .int) :: GW
abbrev rm_C_rounded : Room := { frames := 0, cells := 0, slots := 0, locals := 0 }
set_option maxRecDepth 100000 in
set_option maxHeartbeats 4000000 in
theorem c_C_rounded (l : Launch) (top : Int64) (bottom : Int64) (rounding : Int32)  : Met l yC_rounded wgC_rounded rm_C_rounded (kp_Pc [.long top, .long bottom, .int rounding]) (vp_Si (fun x => x = (kC_rounded top bottom rounding))) 0 0 (fun _ => False) := by
  refine Met.ofW (cc := cC_rounded) (maxL := 10) (ret := (some .int)) (by decide) rfl ?_
  intro p e s m args below meth c s₁ B hml hv
  have hx := B.exec
  have hb := B.bytes
  have hr := B.returns
  have hts := atoms_spec (ws := wgC_rounded) B.pre
  have hg : ∀ w ∈ GW, w.before args s = true := fun w h => hts w (List.mem_cons_of_mem _ h)
  have hown : s.vm.findClass RC = some m.cls := findClass_of_methodNamed B.named
  have hlocks := B.notSynchronized
  refine kw_entry [.long top, .long bottom, .int rounding] hv (Nat.le_of_ble_eq_true rfl) (fun ls hl => ?_)
  have hl : lv_has ls 10 [(0, .long top), (2, .long bottom), (4, .int rounding)] := hl
  refine lv_lload_n hx hb dC_rounded_0 rfl (lv_at hl 1 rfl) ?_
  refine lv_lconst (v := 0) hx hb dC_rounded_1 (by decide) ?_
  refine W.lcmp hx hb dC_rounded_2 ?_
  refine lv_if_gt (tgt := 8) hx hb dC_rounded_3 (by decide) (fun h1 => ?_) (fun h1 => ?_)
  · skip
    refine lv_lload_n hx hb dC_rounded_8 rfl (lv_at hl 0 rfl) ?_
    refine lv_lload_n hx hb dC_rounded_9 rfl (lv_at hl 1 rfl) ?_
    refine lv_ldiv hx hb dC_rounded_10 (kw_ne0 h1) ?_
    refine lv_lstore hx hb dC_rounded_11 hl (by decide) rfl (fun ls hl => ?_)
    have hl : lv_has ls 10 [(5, .long (top / bottom)), (0, .long top), (2, .long bottom), (4, .int rounding)] := hl
    refine lv_lload_n hx hb dC_rounded_13 rfl (lv_at hl 1 rfl) ?_
    refine lv_lload_n hx hb dC_rounded_14 rfl (lv_at hl 2 rfl) ?_
    refine lv_lrem hx hb dC_rounded_15 (kw_ne0 h1) ?_
    refine lv_lstore hx hb dC_rounded_16 hl (by decide) rfl (fun ls hl => ?_)
    have hl : lv_has ls 10 [(7, .long (top - top / bottom * bottom)), (5, .long (top / bottom)), (0, .long top), (2, .long bottom), (4, .int rounding)] := hl
    refine lv_iload hx hb dC_rounded_18 (lv_at hl 4 rfl) ?_
    by_cases h2 : rounding = (0 : Int32)
    · skip
      refine lv_tableIn (off := 28) (tgt := 48) hx hb dC_rounded_20 (by rw [h2]; decide) (by rw [h2]; decide) (by rw [h2]; decide) (by decide) ?_
      refine lv_iconst (v := 0) hx hb dC_rounded_48 (by decide) ?_
      refine lv_istore hx hb dC_rounded_49 hl (by decide) rfl (fun ls hl => ?_)
      have hl : lv_has ls 10 [(9, .int 0), (7, .long (top - top / bottom * bottom)), (5, .long (top / bottom)), (0, .long top), (2, .long bottom), (4, .int rounding)] := hl
      refine lv_goto (tgt := 132) hx hb dC_rounded_51 (by decide) ?_
      refine lv_iload hx hb dC_rounded_132 (lv_at hl 0 rfl) ?_
      refine lv_if_eq (tgt := 144) hx hb dC_rounded_134 (by decide) (fun _ => ?_) (fun h => absurd h (by decide))
      refine lv_lload hx hb dC_rounded_144 (lv_at hl 2 rfl) ?_
      refine lv_l2i hx hb dC_rounded_146 rfl ?_
      have hk9 : kC_rounded top bottom rounding = (top / bottom).toInt32 := by unfold kC_rounded; rw [if_pos h1, if_pos h2]
      exact kp_iret hx hb hr hlocks hk9.symm dC_rounded_147
    by_cases h3 : rounding = (1 : Int32)
    · skip
      refine lv_tableIn (off := 34) (tgt := 54) hx hb dC_rounded_20 (by rw [h3]; decide) (by rw [h3]; decide) (by rw [h3]; decide) (by decide) ?_
      refine lv_lload hx hb dC_rounded_54 (lv_at hl 0 rfl) ?_
      refine lv_lconst (v := 0) hx hb dC_rounded_56 (by decide) ?_
      refine W.lcmp hx hb dC_rounded_57 ?_
      refine lv_if_le (tgt := 65) hx hb dC_rounded_58 (by decide) (fun h4 => ?_) (fun h4 => ?_)
      · skip
        refine lv_iconst (v := 0) hx hb dC_rounded_65 (by decide) ?_
        refine lv_istore hx hb dC_rounded_66 hl (by decide) rfl (fun ls hl => ?_)
        have hl : lv_has ls 10 [(9, .int 0), (7, .long (top - top / bottom * bottom)), (5, .long (top / bottom)), (0, .long top), (2, .long bottom), (4, .int rounding)] := hl
        refine lv_goto (tgt := 132) hx hb dC_rounded_68 (by decide) ?_
        refine lv_iload hx hb dC_rounded_132 (lv_at hl 0 rfl) ?_
        refine lv_if_eq (tgt := 144) hx hb dC_rounded_134 (by decide) (fun _ => ?_) (fun h => absurd h (by decide))
        refine lv_lload hx hb dC_rounded_144 (lv_at hl 2 rfl) ?_
        refine lv_l2i hx hb dC_rounded_146 rfl ?_
        have hk9 : kC_rounded top bottom rounding = (top / bottom).toInt32 := by unfold kC_rounded; rw [if_pos h1, if_neg h2, if_pos h3, if_pos h4]
        exact kp_iret hx hb hr hlocks hk9.symm dC_rounded_147
      · skip
        refine lv_iconst (v := 1) hx hb dC_rounded_61 (by decide) ?_
        refine lv_goto (tgt := 66) hx hb dC_rounded_62 (by decide) ?_
        refine lv_istore hx hb dC_rounded_66 hl (by decide) rfl (fun ls hl => ?_)
        have hl : lv_has ls 10 [(9, .int 1), (7, .long (top - top / bottom * bottom)), (5, .long (top / bottom)), (0, .long top), (2, .long bottom), (4, .int rounding)] := hl
        refine lv_goto (tgt := 132) hx hb dC_rounded_68 (by decide) ?_
        refine lv_iload hx hb dC_rounded_132 (lv_at hl 0 rfl) ?_
        refine lv_if_eq (tgt := 144) hx hb dC_rounded_134 (by decide) (fun h => absurd h (by decide)) (fun _ => ?_)
        refine lv_lload hx hb dC_rounded_137 (lv_at hl 2 rfl) ?_
        refine lv_lconst (v := 1) hx hb dC_rounded_139 (by decide) ?_
        refine lv_ladd hx hb dC_rounded_140 ?_
        refine lv_goto (tgt := 146) hx hb dC_rounded_141 (by decide) ?_
        refine lv_l2i hx hb dC_rounded_146 rfl ?_
        have hk9 : kC_rounded top bottom rounding = ((top / bottom) + 1).toInt32 := by unfold kC_rounded; rw [if_pos h1, if_neg h2, if_pos h3, if_neg h4]
        exact kp_iret hx hb hr hlocks hk9.symm dC_rounded_147
    by_cases h5 : rounding = (2 : Int32)
    · skip
      refine lv_tableIn (off := 51) (tgt := 71) hx hb dC_rounded_20 (by rw [h5]; decide) (by rw [h5]; decide) (by rw [h5]; decide) (by decide) ?_
      refine lv_ldc2 (v := 2) hx hb hown (hg _ gw_293) dC_rounded_71 ?_
      refine lv_lload hx hb dC_rounded_74 (lv_at hl 0 rfl) ?_
      refine lv_lmul hx hb dC_rounded_76 ?_
      refine lv_lload_n hx hb dC_rounded_77 rfl (lv_at hl 3 rfl) ?_
      refine W.lcmp hx hb dC_rounded_78 ?_
      refine lv_if_lt (tgt := 86) hx hb dC_rounded_79 (by decide) (fun h6 => ?_) (fun h6 => ?_)
      · skip
        refine lv_iconst (v := 0) hx hb dC_rounded_86 (by decide) ?_
        refine lv_istore hx hb dC_rounded_87 hl (by decide) rfl (fun ls hl => ?_)
        have hl : lv_has ls 10 [(9, .int 0), (7, .long (top - top / bottom * bottom)), (5, .long (top / bottom)), (0, .long top), (2, .long bottom), (4, .int rounding)] := hl
        refine lv_goto (tgt := 132) hx hb dC_rounded_89 (by decide) ?_
        refine lv_iload hx hb dC_rounded_132 (lv_at hl 0 rfl) ?_
        refine lv_if_eq (tgt := 144) hx hb dC_rounded_134 (by decide) (fun _ => ?_) (fun h => absurd h (by decide))
        refine lv_lload hx hb dC_rounded_144 (lv_at hl 2 rfl) ?_
        refine lv_l2i hx hb dC_rounded_146 rfl ?_
        have hk9 : kC_rounded top bottom rounding = (top / bottom).toInt32 := by unfold kC_rounded; rw [if_pos h1, if_neg h2, if_neg h3, if_pos h5, if_pos h6]
        exact kp_iret hx hb hr hlocks hk9.symm dC_rounded_147
      · skip
        refine lv_iconst (v := 1) hx hb dC_rounded_82 (by decide) ?_
        refine lv_goto (tgt := 87) hx hb dC_rounded_83 (by decide) ?_
        refine lv_istore hx hb dC_rounded_87 hl (by decide) rfl (fun ls hl => ?_)
        have hl : lv_has ls 10 [(9, .int 1), (7, .long (top - top / bottom * bottom)), (5, .long (top / bottom)), (0, .long top), (2, .long bottom), (4, .int rounding)] := hl
        refine lv_goto (tgt := 132) hx hb dC_rounded_89 (by decide) ?_
        refine lv_iload hx hb dC_rounded_132 (lv_at hl 0 rfl) ?_
        refine lv_if_eq (tgt := 144) hx hb dC_rounded_134 (by decide) (fun h => absurd h (by decide)) (fun _ => ?_)
        refine lv_lload hx hb dC_rounded_137 (lv_at hl 2 rfl) ?_
        refine lv_lconst (v := 1) hx hb dC_rounded_139 (by decide) ?_
        refine lv_ladd hx hb dC_rounded_140 ?_
        refine lv_goto (tgt := 146) hx hb dC_rounded_141 (by decide) ?_
        refine lv_l2i hx hb dC_rounded_146 rfl ?_
        have hk9 : kC_rounded top bottom rounding = ((top / bottom) + 1).toInt32 := by unfold kC_rounded; rw [if_pos h1, if_neg h2, if_neg h3, if_pos h5, if_neg h6]
        exact kp_iret hx hb hr hlocks hk9.symm dC_rounded_147
    refine lv_tableOut (tgt := 92) hx hb dC_rounded_20 (by have qh2 := lv_neT h2 (by decide : (0 : Int32).toInt = 0); have qh3 := lv_neT h3 (by decide : (1 : Int32).toInt = 1); have qh5 := lv_neT h5 (by decide : (2 : Int32).toInt = 2); omega) (by decide) ?_
    refine lv_ldc2 (v := 2) hx hb hown (hg _ gw_293) dC_rounded_92 ?_
    refine lv_lload hx hb dC_rounded_95 (lv_at hl 0 rfl) ?_
    refine lv_lmul hx hb dC_rounded_97 ?_
    refine lv_lload_n hx hb dC_rounded_98 rfl (lv_at hl 3 rfl) ?_
    refine W.lcmp hx hb dC_rounded_99 ?_
    refine lv_if_gt (tgt := 125) hx hb dC_rounded_100 (by decide) (fun h7 => ?_) (fun h7 => ?_)
    · skip
      refine lv_iconst (v := 1) hx hb dC_rounded_125 (by decide) ?_
      refine lv_goto (tgt := 130) hx hb dC_rounded_126 (by decide) ?_
      refine lv_istore hx hb dC_rounded_130 hl (by decide) rfl (fun ls hl => ?_)
      have hl : lv_has ls 10 [(9, .int 1), (7, .long (top - top / bottom * bottom)), (5, .long (top / bottom)), (0, .long top), (2, .long bottom), (4, .int rounding)] := hl
      refine lv_iload hx hb dC_rounded_132 (lv_at hl 0 rfl) ?_
      refine lv_if_eq (tgt := 144) hx hb dC_rounded_134 (by decide) (fun h => absurd h (by decide)) (fun _ => ?_)
      refine lv_lload hx hb dC_rounded_137 (lv_at hl 2 rfl) ?_
      refine lv_lconst (v := 1) hx hb dC_rounded_139 (by decide) ?_
      refine lv_ladd hx hb dC_rounded_140 ?_
      refine lv_goto (tgt := 146) hx hb dC_rounded_141 (by decide) ?_
      refine lv_l2i hx hb dC_rounded_146 rfl ?_
      have hk9 : kC_rounded top bottom rounding = ((top / bottom) + 1).toInt32 := by unfold kC_rounded; rw [if_pos h1, if_neg h2, if_neg h3, if_neg h5, if_pos h7]
      exact kp_iret hx hb hr hlocks hk9.symm dC_rounded_147
    · skip
      refine lv_ldc2 (v := 2) hx hb hown (hg _ gw_293) dC_rounded_103 ?_
      refine lv_lload hx hb dC_rounded_106 (lv_at hl 0 rfl) ?_
      refine lv_lmul hx hb dC_rounded_108 ?_
      refine lv_lload_n hx hb dC_rounded_109 rfl (lv_at hl 3 rfl) ?_
      refine W.lcmp hx hb dC_rounded_110 ?_
      refine lv_if_ne (tgt := 129) hx hb dC_rounded_111 (by decide) (fun h8 => ?_) (fun h8 => ?_)
      · skip
        refine lv_iconst (v := 0) hx hb dC_rounded_129 (by decide) ?_
        refine lv_istore hx hb dC_rounded_130 hl (by decide) rfl (fun ls hl => ?_)
        have hl : lv_has ls 10 [(9, .int 0), (7, .long (top - top / bottom * bottom)), (5, .long (top / bottom)), (0, .long top), (2, .long bottom), (4, .int rounding)] := hl
        refine lv_iload hx hb dC_rounded_132 (lv_at hl 0 rfl) ?_
        refine lv_if_eq (tgt := 144) hx hb dC_rounded_134 (by decide) (fun _ => ?_) (fun h => absurd h (by decide))
        refine lv_lload hx hb dC_rounded_144 (lv_at hl 2 rfl) ?_
        refine lv_l2i hx hb dC_rounded_146 rfl ?_
        have hk9 : kC_rounded top bottom rounding = (top / bottom).toInt32 := by unfold kC_rounded; rw [if_pos h1, if_neg h2, if_neg h3, if_neg h5, if_neg h7, if_neg h8]
        exact kp_iret hx hb hr hlocks hk9.symm dC_rounded_147
      · skip
        refine lv_lload hx hb dC_rounded_114 (lv_at hl 1 rfl) ?_
        refine lv_ldc2 (v := 2) hx hb hown (hg _ gw_293) dC_rounded_116 ?_
        refine lv_lrem hx hb dC_rounded_119 (by decide) ?_
        refine lv_lconst (v := 1) hx hb dC_rounded_120 (by decide) ?_
        refine W.lcmp hx hb dC_rounded_121 ?_
        refine lv_if_ne (tgt := 129) hx hb dC_rounded_122 (by decide) (fun h9 => ?_) (fun h9 => ?_)
        · skip
          refine lv_iconst (v := 0) hx hb dC_rounded_129 (by decide) ?_
          refine lv_istore hx hb dC_rounded_130 hl (by decide) rfl (fun ls hl => ?_)
          have hl : lv_has ls 10 [(9, .int 0), (7, .long (top - top / bottom * bottom)), (5, .long (top / bottom)), (0, .long top), (2, .long bottom), (4, .int rounding)] := hl
          refine lv_iload hx hb dC_rounded_132 (lv_at hl 0 rfl) ?_
          refine lv_if_eq (tgt := 144) hx hb dC_rounded_134 (by decide) (fun _ => ?_) (fun h => absurd h (by decide))
          refine lv_lload hx hb dC_rounded_144 (lv_at hl 2 rfl) ?_
          refine lv_l2i hx hb dC_rounded_146 rfl ?_
          have hk9 : kC_rounded top bottom rounding = (top / bottom).toInt32 := by unfold kC_rounded; rw [if_pos h1, if_neg h2, if_neg h3, if_neg h5, if_neg h7, if_pos h8, if_neg h9]
          exact kp_iret hx hb hr hlocks hk9.symm dC_rounded_147
        · skip
          refine lv_iconst (v := 1) hx hb dC_rounded_125 (by decide) ?_
          refine lv_goto (tgt := 130) hx hb dC_rounded_126 (by decide) ?_
          refine lv_istore hx hb dC_rounded_130 hl (by decide) rfl (fun ls hl => ?_)
          have hl : lv_has ls 10 [(9, .int 1), (7, .long (top - top / bottom * bottom)), (5, .long (top / bottom)), (0, .long top), (2, .long bottom), (4, .int rounding)] := hl
          refine lv_iload hx hb dC_rounded_132 (lv_at hl 0 rfl) ?_
          refine lv_if_eq (tgt := 144) hx hb dC_rounded_134 (by decide) (fun h => absurd h (by decide)) (fun _ => ?_)
          refine lv_lload hx hb dC_rounded_137 (lv_at hl 2 rfl) ?_
          refine lv_lconst (v := 1) hx hb dC_rounded_139 (by decide) ?_
          refine lv_ladd hx hb dC_rounded_140 ?_
          refine lv_goto (tgt := 146) hx hb dC_rounded_141 (by decide) ?_
          refine lv_l2i hx hb dC_rounded_146 rfl ?_
          have hk9 : kC_rounded top bottom rounding = ((top / bottom) + 1).toInt32 := by unfold kC_rounded; rw [if_pos h1, if_neg h2, if_neg h3, if_neg h5, if_neg h7, if_pos h8, if_pos h9]
          exact kp_iret hx hb hr hlocks hk9.symm dC_rounded_147
  · skip
    refine lv_iconst (v := 0) hx hb dC_rounded_6 (by decide) ?_
    have hk9 : kC_rounded top bottom rounding = 0 := by unfold kC_rounded; rw [if_neg h1]
    exact kp_iret hx hb hr hlocks hk9.symm dC_rounded_7
def kC_interestOn (amount : Int32) (rate : Int32) (spanTop : Int32) (rule : Int32) (rounding : Int32) : Int32 := (kC_rounded ((amount.toInt64 * rate.toInt64) * spanTop.toInt64) (100000 * (kS_bottom rule).toInt64) rounding)
abbrev wgC_interestOn : List Cond := .code yC_interestOn cC_interestOn 5 (some .int) :: GW
abbrev rm_C_interestOn : Room := { frames := 1, cells := 0, slots := 0, locals := 29 }
set_option maxRecDepth 100000 in
set_option maxHeartbeats 4000000 in
theorem c_C_interestOn (l : Launch) (amount : Int32) (rate : Int32) (spanTop : Int32) (rule : Int32) (rounding : Int32)  : Met l yC_interestOn wgC_interestOn rm_C_interestOn (kp_Pc [.int amount, .int rate, .int spanTop, .int rule, .int rounding]) (vp_Si (fun x => x = (kC_interestOn amount rate spanTop rule rounding))) 0 0 (fun _ => False) := by
  refine Met.ofW (cc := cC_interestOn) (maxL := 5) (ret := (some .int)) (by decide) rfl ?_
  intro p e s m args below meth c s₁ B hml hv
  have hx := B.exec
  have hb := B.bytes
  have hr := B.returns
  have hts := atoms_spec (ws := wgC_interestOn) B.pre
  have hg : ∀ w ∈ GW, w.before args s = true := fun w h => hts w (List.mem_cons_of_mem _ h)
  have hown : s.vm.findClass RC = some m.cls := findClass_of_methodNamed B.named
  have hlocks := B.notSynchronized
  refine kw_entry [.int amount, .int rate, .int spanTop, .int rule, .int rounding] hv (Nat.le_of_ble_eq_true rfl) (fun ls hl => ?_)
  have hl : lv_has ls 5 [(0, .int amount), (1, .int rate), (2, .int spanTop), (3, .int rule), (4, .int rounding)] := hl
  refine lv_iload_n hx hb dC_interestOn_0 rfl (lv_at hl 0 rfl) ?_
  refine lv_i2l hx hb dC_interestOn_1 rfl ?_
  refine lv_iload_n hx hb dC_interestOn_2 rfl (lv_at hl 1 rfl) ?_
  refine lv_i2l hx hb dC_interestOn_3 rfl ?_
  refine lv_lmul hx hb dC_interestOn_4 ?_
  refine lv_iload_n hx hb dC_interestOn_5 rfl (lv_at hl 2 rfl) ?_
  refine lv_i2l hx hb dC_interestOn_6 rfl ?_
  refine lv_lmul hx hb dC_interestOn_7 ?_
  refine lv_ldc2 (v := 100000) hx hb hown (hg _ gw_285) dC_interestOn_8 ?_
  refine lv_iload_n hx hb dC_interestOn_11 rfl (lv_at hl 3 rfl) ?_
  refine kp_reti (va_runS (As := [.int rule]) (rest := [.long 100000, .long ((amount.toInt64 * rate.toInt64) * spanTop.toInt64)]) ⟨hx, hb, hml, hown, hg⟩ (c_S_bottom l rule) ⟨kw_cB (n := 1) hg gw_288 gw_14 gw_286 (by decide +kernel) (by decide +kernel) ⟨Nat.le_of_ble_eq_true rfl, Nat.le_of_ble_eq_true rfl⟩ rfl rfl, hg _ gw_287⟩ kp_pre rfl rfl hl.1 rfl (lv_room (Nat.le_of_ble_eq_true rfl)) dC_interestOn_12 ⟨Nat.le_of_ble_eq_true rfl, Nat.le_of_ble_eq_true rfl⟩) ?_
  refine lv_topi (fun r_1 e_2 => ?_)
  replace e_2 := e_2.symm
  refine lv_i2l hx hb dC_interestOn_15 rfl ?_
  refine lv_lmul hx hb dC_interestOn_16 ?_
  refine lv_iload hx hb dC_interestOn_17 (lv_at hl 4 rfl) ?_
  refine kp_reti (va_runS (As := [.long ((amount.toInt64 * rate.toInt64) * spanTop.toInt64), .long (100000 * r_1.toInt64), .int rounding]) (rest := []) ⟨hx, hb, hml, hown, hg⟩ (c_C_rounded l ((amount.toInt64 * rate.toInt64) * spanTop.toInt64) (100000 * r_1.toInt64) rounding) ⟨kw_cB (n := 3) hg gw_292 gw_15 gw_290 (by decide +kernel) (by decide +kernel) ⟨Nat.le_of_ble_eq_true rfl, Nat.le_of_ble_eq_true rfl⟩ rfl rfl, hg _ gw_291⟩ kp_pre rfl rfl hl.1 rfl (lv_room (Nat.le_of_ble_eq_true rfl)) dC_interestOn_19 ⟨Nat.le_of_ble_eq_true rfl, Nat.le_of_ble_eq_true rfl⟩) ?_
  refine lv_topi (fun r_3 e_4 => ?_)
  replace e_4 := e_4.symm
  have hk9 : kC_interestOn amount rate spanTop rule rounding = r_3 := by subst e_2 e_4; rfl
  exact kp_iret hx hb hr hlocks hk9.symm dC_interestOn_22
def kC_twelfth (amount : Int32) : Int32 := (amount + 11) / 12
abbrev wgC_twelfth : List Cond := .code yC_twelfth cC_twelfth 1 (some .int) :: GW
abbrev rm_C_twelfth : Room := { frames := 0, cells := 0, slots := 0, locals := 0 }
set_option maxRecDepth 100000 in
set_option maxHeartbeats 4000000 in
theorem c_C_twelfth (l : Launch) (amount : Int32)  : Met l yC_twelfth wgC_twelfth rm_C_twelfth (kp_Pc [.int amount]) (vp_Si (fun x => x = (kC_twelfth amount))) 0 0 (fun _ => False) := by
  refine Met.ofW (cc := cC_twelfth) (maxL := 1) (ret := (some .int)) (by decide) rfl ?_
  intro p e s m args below meth c s₁ B hml hv
  have hx := B.exec
  have hb := B.bytes
  have hr := B.returns
  have hts := atoms_spec (ws := wgC_twelfth) B.pre
  have hg : ∀ w ∈ GW, w.before args s = true := fun w h => hts w (List.mem_cons_of_mem _ h)
  have hown : s.vm.findClass RC = some m.cls := findClass_of_methodNamed B.named
  have hlocks := B.notSynchronized
  refine kw_entry [.int amount] hv (Nat.le_of_ble_eq_true rfl) (fun ls hl => ?_)
  have hl : lv_has ls 1 [(0, .int amount)] := hl
  refine lv_iload_n hx hb dC_twelfth_0 rfl (lv_at hl 0 rfl) ?_
  refine lv_bipush (v := 11) hx hb dC_twelfth_1 (by decide) ?_
  refine lv_iadd hx hb dC_twelfth_3 ?_
  refine lv_bipush (v := 12) hx hb dC_twelfth_4 (by decide) ?_
  refine lv_idiv hx hb dC_twelfth_6 (by decide) ?_
  have hk9 : kC_twelfth amount = (amount + 11) / 12 := by rfl
  exact kp_iret hx hb hr hlocks hk9.symm dC_twelfth_7
def kM_within (v : Int32) (low : Int32) (high : Int32) : Int32 := if v < low then 0 else (if high < v then 0 else 1)
abbrev wgM_within : List Cond := .code yM_within cM_within 3 (some .boolean) :: GW
abbrev rm_M_within : Room := { frames := 0, cells := 0, slots := 0, locals := 0 }
set_option maxRecDepth 100000 in
set_option maxHeartbeats 4000000 in
theorem c_M_within (l : Launch) (v : Int32) (low : Int32) (high : Int32)  : Met l yM_within wgM_within rm_M_within (kp_Pc [.int v, .int low, .int high]) (vp_Si (fun x => x = (kM_within v low high))) 0 0 (fun _ => False) := by
  refine Met.ofW (cc := cM_within) (maxL := 3) (ret := (some .boolean)) (by decide) rfl ?_
  intro p e s m args below meth c s₁ B hml hv
  have hx := B.exec
  have hb := B.bytes
  have hr := B.returns
  have hts := atoms_spec (ws := wgM_within) B.pre
  have hg : ∀ w ∈ GW, w.before args s = true := fun w h => hts w (List.mem_cons_of_mem _ h)
  have hown : s.vm.findClass RM = some m.cls := findClass_of_methodNamed B.named
  have hlocks := B.notSynchronized
  refine kw_entry [.int v, .int low, .int high] hv (Nat.le_of_ble_eq_true rfl) (fun ls hl => ?_)
  have hl : lv_has ls 3 [(0, .int v), (1, .int low), (2, .int high)] := hl
  refine lv_iload_n hx hb dM_within_0 rfl (lv_at hl 0 rfl) ?_
  refine lv_iload_n hx hb dM_within_1 rfl (lv_at hl 1 rfl) ?_
  refine lv_icmp_lt (tgt := 14) hx hb dM_within_2 (by decide) (fun h1 => ?_) (fun h1 => ?_)
  · skip
    refine lv_iconst (v := 0) hx hb dM_within_14 (by decide) ?_
    have hk9 : kM_within v low high = 0 := by unfold kM_within; rw [if_pos h1]
    exact kp_zret hx hb hr (by decide) hlocks hk9.symm dM_within_15
  · skip
    refine lv_iload_n hx hb dM_within_5 rfl (lv_at hl 0 rfl) ?_
    refine lv_iload_n hx hb dM_within_6 rfl (lv_at hl 2 rfl) ?_
    refine lv_icmp_gt (tgt := 14) hx hb dM_within_7 (by decide) (fun h2 => ?_) (fun h2 => ?_)
    · skip
      refine lv_iconst (v := 0) hx hb dM_within_14 (by decide) ?_
      have hk9 : kM_within v low high = 0 := by unfold kM_within; rw [if_neg h1, if_pos h2]
      exact kp_zret hx hb hr (by decide) hlocks hk9.symm dM_within_15
    · skip
      refine lv_iconst (v := 1) hx hb dM_within_10 (by decide) ?_
      refine lv_goto (tgt := 15) hx hb dM_within_11 (by decide) ?_
      have hk9 : kM_within v low high = 1 := by unfold kM_within; rw [if_neg h1, if_neg h2]
      exact kp_zret hx hb hr (by decide) hlocks hk9.symm dM_within_15
def kM_daysOf (y : Int32) : Int32 := if (y - y / 4 * 4) = (0 : Int32) then 366 else 365
abbrev wgM_daysOf : List Cond := .code yM_daysOf cM_daysOf 1 (some .int) :: GW
abbrev rm_M_daysOf : Room := { frames := 0, cells := 0, slots := 0, locals := 0 }
set_option maxRecDepth 100000 in
set_option maxHeartbeats 4000000 in
theorem c_M_daysOf (l : Launch) (y : Int32)  : Met l yM_daysOf wgM_daysOf rm_M_daysOf (kp_Pc [.int y]) (vp_Si (fun x => x = (kM_daysOf y))) 0 0 (fun _ => False) := by
  refine Met.ofW (cc := cM_daysOf) (maxL := 1) (ret := (some .int)) (by decide) rfl ?_
  intro p e s m args below meth c s₁ B hml hv
  have hx := B.exec
  have hb := B.bytes
  have hr := B.returns
  have hts := atoms_spec (ws := wgM_daysOf) B.pre
  have hg : ∀ w ∈ GW, w.before args s = true := fun w h => hts w (List.mem_cons_of_mem _ h)
  have hown : s.vm.findClass RM = some m.cls := findClass_of_methodNamed B.named
  have hlocks := B.notSynchronized
  refine kw_entry [.int y] hv (Nat.le_of_ble_eq_true rfl) (fun ls hl => ?_)
  have hl : lv_has ls 1 [(0, .int y)] := hl
  refine lv_iload_n hx hb dM_daysOf_0 rfl (lv_at hl 0 rfl) ?_
  refine lv_iconst (v := 4) hx hb dM_daysOf_1 (by decide) ?_
  refine lv_irem hx hb dM_daysOf_2 (by decide) ?_
  refine lv_if_ne (tgt := 12) hx hb dM_daysOf_3 (by decide) (fun h1 => ?_) (fun h1 => ?_)
  · skip
    refine lv_sipush (v := 365) hx hb dM_daysOf_12 (by decide) ?_
    have hk9 : kM_daysOf y = 365 := by unfold kM_daysOf; rw [if_neg h1]
    exact kp_iret hx hb hr hlocks hk9.symm dM_daysOf_15
  · skip
    refine lv_sipush (v := 366) hx hb dM_daysOf_6 (by decide) ?_
    refine lv_goto (tgt := 15) hx hb dM_daysOf_9 (by decide) ?_
    have hk9 : kM_daysOf y = 366 := by unfold kM_daysOf; rw [if_pos h1]
    exact kp_iret hx hb hr hlocks hk9.symm dM_daysOf_15
def kM_daysIn (y : Int32) (mo : Int32) : Int32 := if mo = (2 : Int32) then ((kM_daysOf y) - 337) else (if mo = (4 : Int32) then 30 else (if mo = (6 : Int32) then 30 else (if mo = (9 : Int32) then 30 else (if mo = (11 : Int32) then 30 else 31))))
abbrev wgM_daysIn : List Cond := .code yM_daysIn cM_daysIn 2 (some .int) :: GW
abbrev rm_M_daysIn : Room := { frames := 1, cells := 0, slots := 0, locals := 20 }
set_option maxRecDepth 100000 in
set_option maxHeartbeats 4000000 in
theorem c_M_daysIn (l : Launch) (y : Int32) (mo : Int32)  : Met l yM_daysIn wgM_daysIn rm_M_daysIn (kp_Pc [.int y, .int mo]) (vp_Si (fun x => x = (kM_daysIn y mo))) 0 0 (fun _ => False) := by
  refine Met.ofW (cc := cM_daysIn) (maxL := 2) (ret := (some .int)) (by decide) rfl ?_
  intro p e s m args below meth c s₁ B hml hv
  have hx := B.exec
  have hb := B.bytes
  have hr := B.returns
  have hts := atoms_spec (ws := wgM_daysIn) B.pre
  have hg : ∀ w ∈ GW, w.before args s = true := fun w h => hts w (List.mem_cons_of_mem _ h)
  have hown : s.vm.findClass RM = some m.cls := findClass_of_methodNamed B.named
  have hlocks := B.notSynchronized
  refine kw_entry [.int y, .int mo] hv (Nat.le_of_ble_eq_true rfl) (fun ls hl => ?_)
  have hl : lv_has ls 2 [(0, .int y), (1, .int mo)] := hl
  refine lv_iload_n hx hb dM_daysIn_0 rfl (lv_at hl 1 rfl) ?_
  refine lv_iconst (v := 2) hx hb dM_daysIn_1 (by decide) ?_
  refine lv_icmp_ne (tgt := 16) hx hb dM_daysIn_2 (by decide) (fun h1 => ?_) (fun h1 => ?_)
  · skip
    refine lv_iload_n hx hb dM_daysIn_16 rfl (lv_at hl 1 rfl) ?_
    refine lv_iconst (v := 4) hx hb dM_daysIn_17 (by decide) ?_
    refine lv_icmp_eq (tgt := 39) hx hb dM_daysIn_18 (by decide) (fun h2 => ?_) (fun h2 => ?_)
    · skip
      refine lv_bipush (v := 30) hx hb dM_daysIn_39 (by decide) ?_
      refine lv_goto (tgt := 46) hx hb dM_daysIn_41 (by decide) ?_
      have hk9 : kM_daysIn y mo = 30 := by unfold kM_daysIn; rw [if_neg h1, if_pos h2]
      exact kp_iret hx hb hr hlocks hk9.symm dM_daysIn_46
    · skip
      refine lv_iload_n hx hb dM_daysIn_21 rfl (lv_at hl 1 rfl) ?_
      refine lv_bipush (v := 6) hx hb dM_daysIn_22 (by decide) ?_
      refine lv_icmp_eq (tgt := 39) hx hb dM_daysIn_24 (by decide) (fun h3 => ?_) (fun h3 => ?_)
      · skip
        refine lv_bipush (v := 30) hx hb dM_daysIn_39 (by decide) ?_
        refine lv_goto (tgt := 46) hx hb dM_daysIn_41 (by decide) ?_
        have hk9 : kM_daysIn y mo = 30 := by unfold kM_daysIn; rw [if_neg h1, if_neg h2, if_pos h3]
        exact kp_iret hx hb hr hlocks hk9.symm dM_daysIn_46
      · skip
        refine lv_iload_n hx hb dM_daysIn_27 rfl (lv_at hl 1 rfl) ?_
        refine lv_bipush (v := 9) hx hb dM_daysIn_28 (by decide) ?_
        refine lv_icmp_eq (tgt := 39) hx hb dM_daysIn_30 (by decide) (fun h4 => ?_) (fun h4 => ?_)
        · skip
          refine lv_bipush (v := 30) hx hb dM_daysIn_39 (by decide) ?_
          refine lv_goto (tgt := 46) hx hb dM_daysIn_41 (by decide) ?_
          have hk9 : kM_daysIn y mo = 30 := by unfold kM_daysIn; rw [if_neg h1, if_neg h2, if_neg h3, if_pos h4]
          exact kp_iret hx hb hr hlocks hk9.symm dM_daysIn_46
        · skip
          refine lv_iload_n hx hb dM_daysIn_33 rfl (lv_at hl 1 rfl) ?_
          refine lv_bipush (v := 11) hx hb dM_daysIn_34 (by decide) ?_
          refine lv_icmp_ne (tgt := 44) hx hb dM_daysIn_36 (by decide) (fun h5 => ?_) (fun h5 => ?_)
          · skip
            refine lv_bipush (v := 31) hx hb dM_daysIn_44 (by decide) ?_
            have hk9 : kM_daysIn y mo = 31 := by unfold kM_daysIn; rw [if_neg h1, if_neg h2, if_neg h3, if_neg h4, if_neg h5]
            exact kp_iret hx hb hr hlocks hk9.symm dM_daysIn_46
          · skip
            refine lv_bipush (v := 30) hx hb dM_daysIn_39 (by decide) ?_
            refine lv_goto (tgt := 46) hx hb dM_daysIn_41 (by decide) ?_
            have hk9 : kM_daysIn y mo = 30 := by unfold kM_daysIn; rw [if_neg h1, if_neg h2, if_neg h3, if_neg h4, if_pos h5]
            exact kp_iret hx hb hr hlocks hk9.symm dM_daysIn_46
  · skip
    refine lv_iload_n hx hb dM_daysIn_5 rfl (lv_at hl 0 rfl) ?_
    refine kp_reti (va_runS (As := [.int y]) (rest := []) ⟨hx, hb, hml, hown, hg⟩ (c_M_daysOf l y) ⟨kw_cB (n := 1) hg gw_593 gw_2 gw_591 (by decide +kernel) (by decide +kernel) ⟨Nat.le_of_ble_eq_true rfl, Nat.le_of_ble_eq_true rfl⟩ rfl rfl, hg _ gw_592⟩ kp_pre rfl rfl hl.1 rfl (lv_room (Nat.le_of_ble_eq_true rfl)) dM_daysIn_6 ⟨Nat.le_of_ble_eq_true rfl, Nat.le_of_ble_eq_true rfl⟩) ?_
    refine lv_topi (fun r_6 e_7 => ?_)
    replace e_7 := e_7.symm
    refine lv_sipush (v := 337) hx hb dM_daysIn_9 (by decide) ?_
    refine lv_isub hx hb dM_daysIn_12 ?_
    refine lv_goto (tgt := 46) hx hb dM_daysIn_13 (by decide) ?_
    have hk9 : kM_daysIn y mo = r_6 - 337 := by subst e_7; unfold kM_daysIn; rw [if_pos h1]
    exact kp_iret hx hb hr hlocks hk9.symm dM_daysIn_46
def kM_under (how : Int32) : Int64 := if how = (0 : Int32) then 365 else (if how = (3 : Int32) then 133590 else 360)
abbrev wgM_under : List Cond := .code yM_under cM_under 1 (some .long) :: GW
abbrev rm_M_under : Room := { frames := 0, cells := 0, slots := 0, locals := 0 }
set_option maxRecDepth 100000 in
set_option maxHeartbeats 4000000 in
theorem c_M_under (l : Launch) (how : Int32)  : Met l yM_under wgM_under rm_M_under (kp_Pc [.int how]) (vp_Sl (fun x => x = (kM_under how))) 0 0 (fun _ => False) := by
  refine Met.ofW (cc := cM_under) (maxL := 1) (ret := (some .long)) (by decide) rfl ?_
  intro p e s m args below meth c s₁ B hml hv
  have hx := B.exec
  have hb := B.bytes
  have hr := B.returns
  have hts := atoms_spec (ws := wgM_under) B.pre
  have hg : ∀ w ∈ GW, w.before args s = true := fun w h => hts w (List.mem_cons_of_mem _ h)
  have hown : s.vm.findClass RM = some m.cls := findClass_of_methodNamed B.named
  have hlocks := B.notSynchronized
  refine kw_entry [.int how] hv (Nat.le_of_ble_eq_true rfl) (fun ls hl => ?_)
  have hl : lv_has ls 1 [(0, .int how)] := hl
  refine lv_iload_n hx hb dM_under_0 rfl (lv_at hl 0 rfl) ?_
  refine lv_if_ne (tgt := 10) hx hb dM_under_1 (by decide) (fun h1 => ?_) (fun h1 => ?_)
  · skip
    refine lv_iload_n hx hb dM_under_10 rfl (lv_at hl 0 rfl) ?_
    refine lv_iconst (v := 3) hx hb dM_under_11 (by decide) ?_
    refine lv_icmp_ne (tgt := 21) hx hb dM_under_12 (by decide) (fun h2 => ?_) (fun h2 => ?_)
    · skip
      refine lv_ldc2 (v := 360) hx hb hown (hg _ gw_618) dM_under_21 ?_
      have hk9 : kM_under how = 360 := by unfold kM_under; rw [if_neg h1, if_neg h2]
      exact kp_lret hx hb hr hlocks hk9.symm dM_under_24
    · skip
      refine lv_ldc2 (v := 133590) hx hb hown (hg _ gw_617) dM_under_15 ?_
      refine lv_goto (tgt := 24) hx hb dM_under_18 (by decide) ?_
      have hk9 : kM_under how = 133590 := by unfold kM_under; rw [if_neg h1, if_pos h2]
      exact kp_lret hx hb hr hlocks hk9.symm dM_under_24
  · skip
    refine lv_ldc2 (v := 365) hx hb hown (hg _ gw_611) dM_under_4 ?_
    refine lv_goto (tgt := 24) hx hb dM_under_7 (by decide) ?_
    have hk9 : kM_under how = 365 := by unfold kM_under; rw [if_pos h1]
    exact kp_lret hx hb hr hlocks hk9.symm dM_under_24
def kM_twelfth (amount : Int32) : Int32 := (amount + 11) / 12
abbrev wgM_twelfth : List Cond := .code yM_twelfth cM_twelfth 1 (some .int) :: GW
abbrev rm_M_twelfth : Room := { frames := 0, cells := 0, slots := 0, locals := 0 }
set_option maxRecDepth 100000 in
set_option maxHeartbeats 4000000 in
theorem c_M_twelfth (l : Launch) (amount : Int32)  : Met l yM_twelfth wgM_twelfth rm_M_twelfth (kp_Pc [.int amount]) (vp_Si (fun x => x = (kM_twelfth amount))) 0 0 (fun _ => False) := by
  refine Met.ofW (cc := cM_twelfth) (maxL := 1) (ret := (some .int)) (by decide) rfl ?_
  intro p e s m args below meth c s₁ B hml hv
  have hx := B.exec
  have hb := B.bytes
  have hr := B.returns
  have hts := atoms_spec (ws := wgM_twelfth) B.pre
  have hg : ∀ w ∈ GW, w.before args s = true := fun w h => hts w (List.mem_cons_of_mem _ h)
  have hown : s.vm.findClass RM = some m.cls := findClass_of_methodNamed B.named
  have hlocks := B.notSynchronized
  refine kw_entry [.int amount] hv (Nat.le_of_ble_eq_true rfl) (fun ls hl => ?_)
  have hl : lv_has ls 1 [(0, .int amount)] := hl
  refine lv_iload_n hx hb dM_twelfth_0 rfl (lv_at hl 0 rfl) ?_
  refine lv_bipush (v := 11) hx hb dM_twelfth_1 (by decide) ?_
  refine lv_iadd hx hb dM_twelfth_3 ?_
  refine lv_bipush (v := 12) hx hb dM_twelfth_4 (by decide) ?_
  refine lv_idiv hx hb dM_twelfth_6 (by decide) ?_
  have hk9 : kM_twelfth amount = (amount + 11) / 12 := by rfl
  exact kp_iret hx hb hr hlocks hk9.symm dM_twelfth_7
