/-! the reference: what asks no more than its cells -/
theorem kw_diamond {p : Program} {l : Launch} {e : Env} {R : Room} {s : State} {m : MethodId} {args : Array Value} {below : List Frame} {meth : Method} {c : Code} {H : Heap} {locs : List Loc} {cells slots : Nat} {Q : State → Prop} {c9 : Prop} [Decidable c9] {x y : Int32} {g : Int32 → JFrame} {g0 : JFrame}
    (body : (c9 → W p l e R s m args below meth c H locs cells slots Q (g x)) → (¬ c9 → W p l e R s m args below meth c H locs cells slots Q (g y)) → W p l e R s m args below meth c H locs cells slots Q g0)
    (join : ∀ z : Int32, (if c9 then x else y) = z → W p l e R s m args below meth c H locs cells slots Q (g z)) : W p l e R s m args below meth c H locs cells slots Q g0 :=
  body (fun h => join x (if_pos h)) (fun h => join y (if_neg h))
def kM_thrown (σ : KS) : Int32 := σ 0 0
abbrev wgM_thrown : List Cond := .code yM_thrown cM_thrown 1 (some .int) :: GW
abbrev rm_M_thrown : Room := { frames := 0, cells := 0, slots := 0, locals := 0 }
set_option maxRecDepth 100000 in
set_option maxHeartbeats 4000000 in
theorem c_M_thrown (l : Launch) (D : va_G) (G : Nat → ClassId) (b : Nat → Nat) (σ : KS) (u0 : Int32 × Int32 × Int32)  (sz : Nat)  : Met l yM_thrown wgM_thrown rm_M_thrown (kw_Pc D vwCl (gt G) [.ref (b 0)] (mcells G b (scr σ u0)) sz) (kx_i D vwCl (gt G) (mcells G b (scr σ u0)) sz (kM_thrown σ) (fun u => mcells G b (scr σ u))) 0 0 (va_A (mcells G b (scr σ u0)) sz) := by
  refine Met.ofW (cc := cM_thrown) (maxL := 1) (ret := (some .int)) (by decide) rfl ?_
  intro p e s m args below meth c s₁ B hml hv
  have hx := B.exec
  have hb := B.bytes
  have hr := B.returns
  have hts := atoms_spec (ws := wgM_thrown) B.pre
  have hg : ∀ w ∈ GW, w.before args s = true := fun w h => hts w (List.mem_cons_of_mem _ h)
  have hown : s.vm.findClass RM = some m.cls := findClass_of_methodNamed B.named
  have hlocks := B.notSynchronized
  obtain ⟨hv, hsz, hP, hK, hD0⟩ := hv
  subst hsz
  have hD := hD0.self (sz := s.heap.size)
  have hS : va_S (va_A (mcells G b (scr σ u0)) s.heap.size) s.heap s.heap [] := va_S.rf
  refine kw_entry [.ref (b 0)] hv (Nat.le_of_ble_eq_true rfl) (fun ls hl => ?_)
  have hl : lv_has ls 1 [(0, .ref (b 0))] := hl
  refine lv_aload_n hx hb dM_thrown_0 rfl (lv_at hl 0 rfl) ?_
  refine va_get (v := .int (σ 0 0)) hx hb hg hin_M hown hK hP 0 rfl rfl 0 (by decide) (hg _ gw_494) (fun _ h => h) rfl dM_thrown_1 ?_
  have hk9 : kM_thrown σ = σ 0 0 := by rfl
  exact kx_iret hx hb hr hlocks hK hP hD hS hk9.symm (u := (u0.1, u0.2.1, u0.2.2)) rfl dM_thrown_4
def kM_none (σ : KS) (ln : Int32) : Int32 := if (kM_within ln (0 : Int32) ((σ 0 2) - 1)) = (0 : Int32) then 1 else 0
abbrev wgM_none : List Cond := .code yM_none cM_none 2 (some .boolean) :: GW
abbrev rm_M_none : Room := { frames := 1, cells := 0, slots := 0, locals := 22 }
set_option maxRecDepth 100000 in
set_option maxHeartbeats 4000000 in
theorem c_M_none (l : Launch) (D : va_G) (G : Nat → ClassId) (b : Nat → Nat) (σ : KS) (u0 : Int32 × Int32 × Int32) (ln : Int32) (sz : Nat)  : Met l yM_none wgM_none rm_M_none (kw_Pc D vwCl (gt G) [.ref (b 0), .int ln] (mcells G b (scr σ u0)) sz) (kx_i D vwCl (gt G) (mcells G b (scr σ u0)) sz (kM_none σ ln) (fun u => mcells G b (scr σ u))) 0 0 (va_A (mcells G b (scr σ u0)) sz) := by
  refine Met.ofW (cc := cM_none) (maxL := 2) (ret := (some .boolean)) (by decide) rfl ?_
  intro p e s m args below meth c s₁ B hml hv
  have hx := B.exec
  have hb := B.bytes
  have hr := B.returns
  have hts := atoms_spec (ws := wgM_none) B.pre
  have hg : ∀ w ∈ GW, w.before args s = true := fun w h => hts w (List.mem_cons_of_mem _ h)
  have hown : s.vm.findClass RM = some m.cls := findClass_of_methodNamed B.named
  have hlocks := B.notSynchronized
  obtain ⟨hv, hsz, hP, hK, hD0⟩ := hv
  subst hsz
  have hD := hD0.self (sz := s.heap.size)
  have hS : va_S (va_A (mcells G b (scr σ u0)) s.heap.size) s.heap s.heap [] := va_S.rf
  refine kw_entry [.ref (b 0), .int ln] hv (Nat.le_of_ble_eq_true rfl) (fun ls hl => ?_)
  have hl : lv_has ls 2 [(0, .ref (b 0)), (1, .int ln)] := hl
  refine lv_iload_n hx hb dM_none_0 rfl (lv_at hl 1 rfl) ?_
  refine lv_iconst (v := 0) hx hb dM_none_1 (by decide) ?_
  refine lv_aload_n hx hb dM_none_2 rfl (lv_at hl 0 rfl) ?_
  refine va_get (v := .int (σ 0 2)) hx hb hg hin_M hown hK hP 0 rfl rfl 2 (by decide) (hg _ gw_496) (fun _ h => h) rfl dM_none_3 ?_
  refine lv_iconst (v := 1) hx hb dM_none_6 (by decide) ?_
  refine lv_isub hx hb dM_none_7 ?_
  refine kp_reti (va_runS (As := [.int ln, .int 0, .int ((σ 0 2) - 1)]) (rest := []) ⟨hx, hb, hml, hown, hg⟩ (c_M_within l ln (0 : Int32) ((σ 0 2) - 1)) ⟨kw_cB (n := 3) hg gw_604 gw_2 gw_602 (by decide +kernel) (by decide +kernel) ⟨Nat.le_of_ble_eq_true rfl, Nat.le_of_ble_eq_true rfl⟩ rfl rfl, hg _ gw_603⟩ kp_pre rfl rfl hl.1 rfl (lv_room (Nat.le_of_ble_eq_true rfl)) dM_none_8 ⟨Nat.le_of_ble_eq_true rfl, Nat.le_of_ble_eq_true rfl⟩) ?_
  refine lv_topi (fun r_1 e_2 => ?_)
  replace e_2 := e_2.symm
  refine lv_if_ne (tgt := 18) hx hb dM_none_11 (by decide) (fun h3 => ?_) (fun h3 => ?_)
  · skip
    refine lv_iconst (v := 0) hx hb dM_none_18 (by decide) ?_
    have hk9 : kM_none σ ln = 0 := by subst e_2; unfold kM_none; rw [if_neg h3]
    exact kx_zret hx hb hr (by decide) hlocks hK hP hD hS hk9.symm (u := (u0.1, u0.2.1, u0.2.2)) rfl dM_none_19
  · skip
    refine lv_iconst (v := 1) hx hb dM_none_14 (by decide) ?_
    refine lv_goto (tgt := 19) hx hb dM_none_15 (by decide) ?_
    have hk9 : kM_none σ ln = 1 := by subst e_2; unfold kM_none; rw [if_pos h3]
    exact kx_zret hx hb hr (by decide) hlocks hK hP hD hS hk9.symm (u := (u0.1, u0.2.1, u0.2.2)) rfl dM_none_19
theorem kx_none {σ : KS} {ln : Int32} {nl : Nat} (hnl : σ 0 2 = nI nl) (hn3 : nl ≤ 3) (h : kM_none σ ln = 0) : vp_in ln 3 := by
  unfold kM_none kM_within at h
  rw [hnl] at h
  have e : (nI nl - 1).toInt = (nl : Int) - 1 := pk_sub_toInt (a := nl) (b := 1) (by omega) (by decide)
  rw [vp_in_iff]
  by_cases h1 : ln < 0
  · rw [if_pos h1] at h
    exact absurd h (by decide)
  · by_cases h2 : nI nl - 1 < ln
    · rw [if_neg h1, if_pos h2] at h
      exact absurd h (by decide)
    · rw [Int32.lt_iff_toInt_lt] at h1 h2
      rw [e] at h2
      have : (0 : Int32).toInt = 0 := by decide
      omega
def kM_charge (σ : KS) (ln : Int32) (amount : Int32) : KS := if (kM_none σ ln) = (0 : Int32) then (if (kM_within amount (0 : Int32) (10000000 : Int32)) = (0 : Int32) then (mkM 2 (σ 0 1) (σ 0 2) (σ 0 3) (σ 0 4) (σ 0 5) (σ 1) (σ 2) (σ 3) (σ 4) (σ 5) (σ 6) (σ 7) (σ 8) (σ 9) (σ 10) (σ 11) (σ 12) (σ 13) (σ 14) (σ 15) (σ 16) (σ 17) (σ 18) (σ 19) (σ 20) (σ 21) (σ 22)) else (mkM 0 (σ 0 1) (σ 0 2) (σ 0 3) (σ 0 4) (σ 0 5) (σ 1) (σ 2) (σ 3) (σ 4) (σ 5) (σ 6) (σ 7) (σ 8) (σ 9) (σ 10) (σ 11) (upd (σ 12) ln.toNatClampNeg amount) (upd (σ 13) ln.toNatClampNeg (kM_twelfth amount)) (σ 14) (σ 15) (σ 16) (σ 17) (σ 18) (σ 19) (σ 20) (σ 21) (σ 22))) else (mkM 1 (σ 0 1) (σ 0 2) (σ 0 3) (σ 0 4) (σ 0 5) (σ 1) (σ 2) (σ 3) (σ 4) (σ 5) (σ 6) (σ 7) (σ 8) (σ 9) (σ 10) (σ 11) (σ 12) (σ 13) (σ 14) (σ 15) (σ 16) (σ 17) (σ 18) (σ 19) (σ 20) (σ 21) (σ 22))
abbrev wgM_charge : List Cond := .code yM_charge cM_charge 3 none :: GW
abbrev rm_M_charge : Room := { frames := 2, cells := 0, slots := 0, locals := 43 }
set_option maxRecDepth 100000 in
set_option maxHeartbeats 4000000 in
theorem c_M_charge (l : Launch) (D : va_G) (G : Nat → ClassId) (b : Nat → Nat) (σ : KS) (u0 : Int32 × Int32 × Int32) (ln : Int32) (amount : Int32) (sz : Nat) (nl : Nat) (hnl : σ 0 2 = nI nl) (hn3 : nl ≤ 3) : Met l yM_charge wgM_charge rm_M_charge (kw_Pc D vwCl (gt G) [.ref (b 0), .int ln, .int amount] (mcells G b (scr σ u0)) sz) (kx_v D vwCl (gt G) (mcells G b (scr σ u0)) sz (fun u => mcells G b (scr (kM_charge σ ln amount) u))) 0 0 (va_A (mcells G b (scr σ u0)) sz) := by
  refine Met.ofW (cc := cM_charge) (maxL := 3) (ret := none) (by decide) rfl ?_
  intro p e s m args below meth c s₁ B hml hv
  have hx := B.exec
  have hb := B.bytes
  have hr := B.returns
  have hts := atoms_spec (ws := wgM_charge) B.pre
  have hg : ∀ w ∈ GW, w.before args s = true := fun w h => hts w (List.mem_cons_of_mem _ h)
  have hown : s.vm.findClass RM = some m.cls := findClass_of_methodNamed B.named
  have hlocks := B.notSynchronized
  obtain ⟨hv, hsz, hP, hK, hD0⟩ := hv
  subst hsz
  have hD := hD0.self (sz := s.heap.size)
  have hS : va_S (va_A (mcells G b (scr σ u0)) s.heap.size) s.heap s.heap [] := va_S.rf
  refine kw_entry [.ref (b 0), .int ln, .int amount] hv (Nat.le_of_ble_eq_true rfl) (fun ls hl => ?_)
  have hl : lv_has ls 3 [(0, .ref (b 0)), (1, .int ln), (2, .int amount)] := hl
  refine lv_aload_n hx hb dM_charge_0 rfl (lv_at hl 0 rfl) ?_
  refine lv_aload_n hx hb dM_charge_1 rfl (lv_at hl 0 rfl) ?_
  refine lv_iload_n hx hb dM_charge_2 rfl (lv_at hl 1 rfl) ?_
  refine kx_reti0 (va_runV (C := RM) (As := [.int ln]) (rest := [.ref (b 0)]) ⟨hx, hb, hml, hown, hg⟩ (c_M_none l D G b σ (u0.1, u0.2.1, u0.2.2) ln _) ⟨kw_cB (n := 1) hg gw_655 gw_2 gw_653 (by decide +kernel) (by decide +kernel) ⟨Nat.le_of_ble_eq_true rfl, Nat.le_of_ble_eq_true rfl⟩ rfl rfl, hg _ gw_654, hg _ gw_752⟩ (kw_preV (q0 := 0) hK hP hD rfl rfl) rfl rfl hl.1 rfl (lv_room (Nat.le_of_ble_eq_true rfl)) dM_charge_3 ⟨Nat.le_of_ble_eq_true rfl, Nat.le_of_ble_eq_true rfl⟩) hP hD hS (fun _ h => Or.inr h) (fun u_1 u_2 u_3 H locs hP hD hS => ?_)
  refine lv_topi (fun r_4 e_5 => ?_)
  replace e_5 := e_5.symm
  refine lv_if_eq (tgt := 13) hx hb dM_charge_6 (by decide) (fun h6 => ?_) (fun h6 => ?_)
  · skip
    refine lv_iload_n hx hb dM_charge_13 rfl (lv_at hl 2 rfl) ?_
    refine lv_iconst (v := 0) hx hb dM_charge_14 (by decide) ?_
    refine lv_ldc (v := 10000000) hx hb hown (hg _ gw_656) dM_charge_15 ?_
    refine kp_reti (va_runS (As := [.int amount, .int 0, .int 10000000]) (rest := [.ref (b 0)]) ⟨hx, hb, hml, hown, hg⟩ (c_M_within l amount (0 : Int32) (10000000 : Int32)) ⟨kw_cB (n := 3) hg gw_604 gw_2 gw_602 (by decide +kernel) (by decide +kernel) ⟨Nat.le_of_ble_eq_true rfl, Nat.le_of_ble_eq_true rfl⟩ rfl rfl, hg _ gw_603⟩ kp_pre rfl rfl hl.1 rfl (lv_room (Nat.le_of_ble_eq_true rfl)) dM_charge_17 ⟨Nat.le_of_ble_eq_true rfl, Nat.le_of_ble_eq_true rfl⟩) ?_
    refine lv_topi (fun r_7 e_8 => ?_)
    replace e_8 := e_8.symm
    refine lv_if_eq (tgt := 27) hx hb dM_charge_20 (by decide) (fun h9 => ?_) (fun h9 => ?_)
    · skip
      refine lv_iconst (v := 2) hx hb dM_charge_27 (by decide) ?_
      refine kw_put (w' := lm G b 2 (σ 0 1) (σ 0 2) u_1 u_2 u_3 (σ 1) (σ 2) (σ 3) (σ 4) (σ 5) (σ 6) (σ 7) (σ 8) (σ 9) (σ 10) (σ 11) (σ 12) (σ 13) (σ 14) (σ 15) (σ 16) (σ 17) (σ 18) (σ 19) (σ 20) (σ 21) (σ 22)) (v := .int 2) (ty := .int) hx hb hg hin_M tyM tyM_ok nM hown hK hP hD hS 0 rfl rfl 0 (by decide) (hg _ gw_494) (fun _ h => h) rfl (by decide +kernel) rfl rfl (Nat.le_of_ble_eq_true rfl) dM_charge_28 rfl (fun H locs hP hD hS => ?_)
      refine lv_aload_n hx hb dM_charge_31 rfl (lv_at hl 0 rfl) ?_
      refine va_get (v := .int 2) hx hb hg hin_M hown hK hP 0 rfl rfl 0 (by decide) (hg _ gw_494) (fun _ h => h) rfl dM_charge_32 ?_
      refine lv_if_ne (tgt := 55) hx hb dM_charge_35 (by decide) (fun _ => ?_) (fun h => absurd h (by decide))
      have hk9 : kM_charge σ ln amount = mkM 2 (σ 0 1) (σ 0 2) (σ 0 3) (σ 0 4) (σ 0 5) (σ 1) (σ 2) (σ 3) (σ 4) (σ 5) (σ 6) (σ 7) (σ 8) (σ 9) (σ 10) (σ 11) (σ 12) (σ 13) (σ 14) (σ 15) (σ 16) (σ 17) (σ 18) (σ 19) (σ 20) (σ 21) (σ 22) := by subst e_5 e_8; unfold kM_charge; rw [if_pos h6, if_pos h9]
      exact kx_vret hx hb hr hlocks hK hP hD hS (u := (u_1, u_2, u_3)) (by rw [hk9] <;> rfl) dM_charge_55
    · skip
      refine lv_iconst (v := 0) hx hb dM_charge_23 (by decide) ?_
      refine lv_goto (tgt := 28) hx hb dM_charge_24 (by decide) ?_
      refine kw_put (w' := lm G b 0 (σ 0 1) (σ 0 2) u_1 u_2 u_3 (σ 1) (σ 2) (σ 3) (σ 4) (σ 5) (σ 6) (σ 7) (σ 8) (σ 9) (σ 10) (σ 11) (σ 12) (σ 13) (σ 14) (σ 15) (σ 16) (σ 17) (σ 18) (σ 19) (σ 20) (σ 21) (σ 22)) (v := .int 0) (ty := .int) hx hb hg hin_M tyM tyM_ok nM hown hK hP hD hS 0 rfl rfl 0 (by decide) (hg _ gw_494) (fun _ h => h) rfl (by decide +kernel) rfl rfl (Nat.le_of_ble_eq_true rfl) dM_charge_28 rfl (fun H locs hP hD hS => ?_)
      refine lv_aload_n hx hb dM_charge_31 rfl (lv_at hl 0 rfl) ?_
      refine va_get (v := .int 0) hx hb hg hin_M hown hK hP 0 rfl rfl 0 (by decide) (hg _ gw_494) (fun _ h => h) rfl dM_charge_32 ?_
      refine lv_if_ne (tgt := 55) hx hb dM_charge_35 (by decide) (fun h => absurd h (by decide)) (fun _ => ?_)
      refine lv_aload_n hx hb dM_charge_38 rfl (lv_at hl 0 rfl) ?_
      refine va_get (v := .ref (b 14)) hx hb hg hin_M hown hK hP 0 rfl rfl 14 (by decide) (hg _ gw_508) (fun _ h => h) rfl dM_charge_39 ?_
      refine lv_iload_n hx hb dM_charge_42 rfl (lv_at hl 1 rfl) ?_
      refine lv_iload_n hx hb dM_charge_43 rfl (lv_at hl 2 rfl) ?_
      refine kw_iast (w' := lm G b 0 (σ 0 1) (σ 0 2) u_1 u_2 u_3 (σ 1) (σ 2) (σ 3) (σ 4) (σ 5) (σ 6) (σ 7) (σ 8) (σ 9) (σ 10) (σ 11) (upd (σ 12) ln.toNatClampNeg amount) (σ 13) (σ 14) (σ 15) (σ 16) (σ 17) (σ 18) (σ 19) (σ 20) (σ 21) (σ 22)) (j := ln.toNatClampNeg) hx hb hK hP hD hS 12 0 rfl rfl (kx_none hnl hn3 (by subst e_5 e_8; exact h6)) rfl dM_charge_44 rfl (fun H locs hP hD hS => ?_)
      refine lv_aload_n hx hb dM_charge_45 rfl (lv_at hl 0 rfl) ?_
      refine va_get (v := .ref (b 15)) hx hb hg hin_M hown hK hP 0 rfl rfl 15 (by decide) (hg _ gw_509) (fun _ h => h) rfl dM_charge_46 ?_
      refine lv_iload_n hx hb dM_charge_49 rfl (lv_at hl 1 rfl) ?_
      refine lv_iload_n hx hb dM_charge_50 rfl (lv_at hl 2 rfl) ?_
      refine kp_reti (va_runS (As := [.int amount]) (rest := [.int ln, .ref (b 15)]) ⟨hx, hb, hml, hown, hg⟩ (c_M_twelfth l amount) ⟨kw_cB (n := 1) hg gw_659 gw_2 gw_657 (by decide +kernel) (by decide +kernel) ⟨Nat.le_of_ble_eq_true rfl, Nat.le_of_ble_eq_true rfl⟩ rfl rfl, hg _ gw_658⟩ kp_pre rfl rfl hl.1 rfl (lv_room (Nat.le_of_ble_eq_true rfl)) dM_charge_51 ⟨Nat.le_of_ble_eq_true rfl, Nat.le_of_ble_eq_true rfl⟩) ?_
      refine lv_topi (fun r_10 e_11 => ?_)
      replace e_11 := e_11.symm
      refine kw_iast (w' := lm G b 0 (σ 0 1) (σ 0 2) u_1 u_2 u_3 (σ 1) (σ 2) (σ 3) (σ 4) (σ 5) (σ 6) (σ 7) (σ 8) (σ 9) (σ 10) (σ 11) (upd (σ 12) ln.toNatClampNeg amount) (upd (σ 13) ln.toNatClampNeg r_10) (σ 14) (σ 15) (σ 16) (σ 17) (σ 18) (σ 19) (σ 20) (σ 21) (σ 22)) (j := ln.toNatClampNeg) hx hb hK hP hD hS 13 0 rfl rfl (kx_none hnl hn3 (by subst e_5 e_8 e_11; exact h6)) rfl dM_charge_54 rfl (fun H locs hP hD hS => ?_)
      have hk9 : kM_charge σ ln amount = mkM 0 (σ 0 1) (σ 0 2) (σ 0 3) (σ 0 4) (σ 0 5) (σ 1) (σ 2) (σ 3) (σ 4) (σ 5) (σ 6) (σ 7) (σ 8) (σ 9) (σ 10) (σ 11) (upd (σ 12) ln.toNatClampNeg amount) (upd (σ 13) ln.toNatClampNeg r_10) (σ 14) (σ 15) (σ 16) (σ 17) (σ 18) (σ 19) (σ 20) (σ 21) (σ 22) := by subst e_5 e_8 e_11; unfold kM_charge; rw [if_pos h6, if_neg h9]
      exact kx_vret hx hb hr hlocks hK hP hD hS (u := (u_1, u_2, u_3)) (by rw [hk9] <;> rfl) dM_charge_55
  · skip
    refine lv_iconst (v := 1) hx hb dM_charge_9 (by decide) ?_
    refine lv_goto (tgt := 28) hx hb dM_charge_10 (by decide) ?_
    refine kw_put (w' := lm G b 1 (σ 0 1) (σ 0 2) u_1 u_2 u_3 (σ 1) (σ 2) (σ 3) (σ 4) (σ 5) (σ 6) (σ 7) (σ 8) (σ 9) (σ 10) (σ 11) (σ 12) (σ 13) (σ 14) (σ 15) (σ 16) (σ 17) (σ 18) (σ 19) (σ 20) (σ 21) (σ 22)) (v := .int 1) (ty := .int) hx hb hg hin_M tyM tyM_ok nM hown hK hP hD hS 0 rfl rfl 0 (by decide) (hg _ gw_494) (fun _ h => h) rfl (by decide +kernel) rfl rfl (Nat.le_of_ble_eq_true rfl) dM_charge_28 rfl (fun H locs hP hD hS => ?_)
    refine lv_aload_n hx hb dM_charge_31 rfl (lv_at hl 0 rfl) ?_
    refine va_get (v := .int 1) hx hb hg hin_M hown hK hP 0 rfl rfl 0 (by decide) (hg _ gw_494) (fun _ h => h) rfl dM_charge_32 ?_
    refine lv_if_ne (tgt := 55) hx hb dM_charge_35 (by decide) (fun _ => ?_) (fun h => absurd h (by decide))
    have hk9 : kM_charge σ ln amount = mkM 1 (σ 0 1) (σ 0 2) (σ 0 3) (σ 0 4) (σ 0 5) (σ 1) (σ 2) (σ 3) (σ 4) (σ 5) (σ 6) (σ 7) (σ 8) (σ 9) (σ 10) (σ 11) (σ 12) (σ 13) (σ 14) (σ 15) (σ 16) (σ 17) (σ 18) (σ 19) (σ 20) (σ 21) (σ 22) := by subst e_5; unfold kM_charge; rw [if_neg h6]
    exact kx_vret hx hb hr hlocks hK hP hD hS (u := (u_1, u_2, u_3)) (by rw [hk9] <;> rfl) dM_charge_55
def kM_seen (σ : KS) (ln : Int32) (v : Int32) : Int32 := if (kM_none σ ln) = (0 : Int32) then v else 0
abbrev wgM_seen : List Cond := .code yM_seen cM_seen 3 (some .int) :: GW
abbrev rm_M_seen : Room := { frames := 2, cells := 0, slots := 0, locals := 43 }
set_option maxRecDepth 100000 in
set_option maxHeartbeats 4000000 in
theorem c_M_seen (l : Launch) (D : va_G) (G : Nat → ClassId) (b : Nat → Nat) (σ : KS) (u0 : Int32 × Int32 × Int32) (ln : Int32) (v : Int32) (sz : Nat)  : Met l yM_seen wgM_seen rm_M_seen (kw_Pc D vwCl (gt G) [.ref (b 0), .int ln, .int v] (mcells G b (scr σ u0)) sz) (kx_i D vwCl (gt G) (mcells G b (scr σ u0)) sz (kM_seen σ ln v) (fun u => mcells G b (scr σ u))) 0 0 (va_A (mcells G b (scr σ u0)) sz) := by
  refine Met.ofW (cc := cM_seen) (maxL := 3) (ret := (some .int)) (by decide) rfl ?_
  intro p e s m args below meth c s₁ B hml hv
  have hx := B.exec
  have hb := B.bytes
  have hr := B.returns
  have hts := atoms_spec (ws := wgM_seen) B.pre
  have hg : ∀ w ∈ GW, w.before args s = true := fun w h => hts w (List.mem_cons_of_mem _ h)
  have hown : s.vm.findClass RM = some m.cls := findClass_of_methodNamed B.named
  have hlocks := B.notSynchronized
  obtain ⟨hv, hsz, hP, hK, hD0⟩ := hv
  subst hsz
  have hD := hD0.self (sz := s.heap.size)
  have hS : va_S (va_A (mcells G b (scr σ u0)) s.heap.size) s.heap s.heap [] := va_S.rf
  refine kw_entry [.ref (b 0), .int ln, .int v] hv (Nat.le_of_ble_eq_true rfl) (fun ls hl => ?_)
  have hl : lv_has ls 3 [(0, .ref (b 0)), (1, .int ln), (2, .int v)] := hl
  refine lv_aload_n hx hb dM_seen_0 rfl (lv_at hl 0 rfl) ?_
  refine lv_iload_n hx hb dM_seen_1 rfl (lv_at hl 1 rfl) ?_
  refine kx_reti0 (va_runV (C := RM) (As := [.int ln]) (rest := []) ⟨hx, hb, hml, hown, hg⟩ (c_M_none l D G b σ (u0.1, u0.2.1, u0.2.2) ln _) ⟨kw_cB (n := 1) hg gw_655 gw_2 gw_653 (by decide +kernel) (by decide +kernel) ⟨Nat.le_of_ble_eq_true rfl, Nat.le_of_ble_eq_true rfl⟩ rfl rfl, hg _ gw_654, hg _ gw_752⟩ (kw_preV (q0 := 0) hK hP hD rfl rfl) rfl rfl hl.1 rfl (lv_room (Nat.le_of_ble_eq_true rfl)) dM_seen_2 ⟨Nat.le_of_ble_eq_true rfl, Nat.le_of_ble_eq_true rfl⟩) hP hD hS (fun _ h => Or.inr h) (fun u_1 u_2 u_3 H locs hP hD hS => ?_)
  refine lv_topi (fun r_4 e_5 => ?_)
  replace e_5 := e_5.symm
  refine lv_if_eq (tgt := 12) hx hb dM_seen_5 (by decide) (fun h6 => ?_) (fun h6 => ?_)
  · skip
    refine lv_iload_n hx hb dM_seen_12 rfl (lv_at hl 2 rfl) ?_
    have hk9 : kM_seen σ ln v = v := by subst e_5; unfold kM_seen; rw [if_pos h6]
    exact kx_iret hx hb hr hlocks hK hP hD hS hk9.symm (u := (u_1, u_2, u_3)) rfl dM_seen_13
  · skip
    refine lv_iconst (v := 0) hx hb dM_seen_8 (by decide) ?_
    refine lv_goto (tgt := 13) hx hb dM_seen_9 (by decide) ?_
    have hk9 : kM_seen σ ln v = 0 := by subst e_5; unfold kM_seen; rw [if_neg h6]
    exact kx_iret hx hb hr hlocks hK hP hD hS hk9.symm (u := (u_1, u_2, u_3)) rfl dM_seen_13
def kM_at (σ : KS) (ln : Int32) : Int32 × KS := if (kM_none σ ln) = (0 : Int32) then (ln, mkM 0 (σ 0 1) (σ 0 2) (σ 0 3) (σ 0 4) (σ 0 5) (σ 1) (σ 2) (σ 3) (σ 4) (σ 5) (σ 6) (σ 7) (σ 8) (σ 9) (σ 10) (σ 11) (σ 12) (σ 13) (σ 14) (σ 15) (σ 16) (σ 17) (σ 18) (σ 19) (σ 20) (σ 21) (σ 22)) else (0, mkM 1 (σ 0 1) (σ 0 2) (σ 0 3) (σ 0 4) (σ 0 5) (σ 1) (σ 2) (σ 3) (σ 4) (σ 5) (σ 6) (σ 7) (σ 8) (σ 9) (σ 10) (σ 11) (σ 12) (σ 13) (σ 14) (σ 15) (σ 16) (σ 17) (σ 18) (σ 19) (σ 20) (σ 21) (σ 22))
abbrev wgM_at : List Cond := .code yM_at cM_at 2 (some .int) :: GW
abbrev rm_M_at : Room := { frames := 2, cells := 0, slots := 0, locals := 43 }
set_option maxRecDepth 100000 in
set_option maxHeartbeats 4000000 in
theorem c_M_at (l : Launch) (D : va_G) (G : Nat → ClassId) (b : Nat → Nat) (σ : KS) (u0 : Int32 × Int32 × Int32) (ln : Int32) (sz : Nat)  : Met l yM_at wgM_at rm_M_at (kw_Pc D vwCl (gt G) [.ref (b 0), .int ln] (mcells G b (scr σ u0)) sz) (kx_i D vwCl (gt G) (mcells G b (scr σ u0)) sz ((kM_at σ ln).1) (fun u => mcells G b (scr ((kM_at σ ln).2) u))) 0 0 (va_A (mcells G b (scr σ u0)) sz) := by
  refine Met.ofW (cc := cM_at) (maxL := 2) (ret := (some .int)) (by decide) rfl ?_
  intro p e s m args below meth c s₁ B hml hv
  have hx := B.exec
  have hb := B.bytes
  have hr := B.returns
  have hts := atoms_spec (ws := wgM_at) B.pre
  have hg : ∀ w ∈ GW, w.before args s = true := fun w h => hts w (List.mem_cons_of_mem _ h)
  have hown : s.vm.findClass RM = some m.cls := findClass_of_methodNamed B.named
  have hlocks := B.notSynchronized
  obtain ⟨hv, hsz, hP, hK, hD0⟩ := hv
  subst hsz
  have hD := hD0.self (sz := s.heap.size)
  have hS : va_S (va_A (mcells G b (scr σ u0)) s.heap.size) s.heap s.heap [] := va_S.rf
  refine kw_entry [.ref (b 0), .int ln] hv (Nat.le_of_ble_eq_true rfl) (fun ls hl => ?_)
  have hl : lv_has ls 2 [(0, .ref (b 0)), (1, .int ln)] := hl
  refine lv_aload_n hx hb dM_at_0 rfl (lv_at hl 0 rfl) ?_
  refine lv_aload_n hx hb dM_at_1 rfl (lv_at hl 0 rfl) ?_
  refine lv_iload_n hx hb dM_at_2 rfl (lv_at hl 1 rfl) ?_
  refine kx_reti0 (va_runV (C := RM) (As := [.int ln]) (rest := [.ref (b 0)]) ⟨hx, hb, hml, hown, hg⟩ (c_M_none l D G b σ (u0.1, u0.2.1, u0.2.2) ln _) ⟨kw_cB (n := 1) hg gw_655 gw_2 gw_653 (by decide +kernel) (by decide +kernel) ⟨Nat.le_of_ble_eq_true rfl, Nat.le_of_ble_eq_true rfl⟩ rfl rfl, hg _ gw_654, hg _ gw_752⟩ (kw_preV (q0 := 0) hK hP hD rfl rfl) rfl rfl hl.1 rfl (lv_room (Nat.le_of_ble_eq_true rfl)) dM_at_3 ⟨Nat.le_of_ble_eq_true rfl, Nat.le_of_ble_eq_true rfl⟩) hP hD hS (fun _ h => Or.inr h) (fun u_1 u_2 u_3 H locs hP hD hS => ?_)
  refine lv_topi (fun r_4 e_5 => ?_)
  replace e_5 := e_5.symm
  refine lv_if_eq (tgt := 13) hx hb dM_at_6 (by decide) (fun h6 => ?_) (fun h6 => ?_)
  · skip
    refine lv_iconst (v := 0) hx hb dM_at_13 (by decide) ?_
    refine kw_put (w' := lm G b 0 (σ 0 1) (σ 0 2) u_1 u_2 u_3 (σ 1) (σ 2) (σ 3) (σ 4) (σ 5) (σ 6) (σ 7) (σ 8) (σ 9) (σ 10) (σ 11) (σ 12) (σ 13) (σ 14) (σ 15) (σ 16) (σ 17) (σ 18) (σ 19) (σ 20) (σ 21) (σ 22)) (v := .int 0) (ty := .int) hx hb hg hin_M tyM tyM_ok nM hown hK hP hD hS 0 rfl rfl 0 (by decide) (hg _ gw_494) (fun _ h => h) rfl (by decide +kernel) rfl rfl (Nat.le_of_ble_eq_true rfl) dM_at_14 rfl (fun H locs hP hD hS => ?_)
    refine lv_aload_n hx hb dM_at_17 rfl (lv_at hl 0 rfl) ?_
    refine va_get (v := .int 0) hx hb hg hin_M hown hK hP 0 rfl rfl 0 (by decide) (hg _ gw_494) (fun _ h => h) rfl dM_at_18 ?_
    refine lv_if_le (tgt := 28) hx hb dM_at_21 (by decide) (fun _ => ?_) (fun h => absurd h (by decide))
    refine lv_iload_n hx hb dM_at_28 rfl (lv_at hl 1 rfl) ?_
    have hk9 : kM_at σ ln = (ln, mkM 0 (σ 0 1) (σ 0 2) (σ 0 3) (σ 0 4) (σ 0 5) (σ 1) (σ 2) (σ 3) (σ 4) (σ 5) (σ 6) (σ 7) (σ 8) (σ 9) (σ 10) (σ 11) (σ 12) (σ 13) (σ 14) (σ 15) (σ 16) (σ 17) (σ 18) (σ 19) (σ 20) (σ 21) (σ 22)) := by subst e_5; unfold kM_at; rw [if_pos h6]
    exact kx_iret hx hb hr hlocks hK hP hD hS (by rw [hk9]) (u := (u_1, u_2, u_3)) (by rw [hk9] <;> rfl) dM_at_29
  · skip
    refine lv_iconst (v := 1) hx hb dM_at_9 (by decide) ?_
    refine lv_goto (tgt := 14) hx hb dM_at_10 (by decide) ?_
    refine kw_put (w' := lm G b 1 (σ 0 1) (σ 0 2) u_1 u_2 u_3 (σ 1) (σ 2) (σ 3) (σ 4) (σ 5) (σ 6) (σ 7) (σ 8) (σ 9) (σ 10) (σ 11) (σ 12) (σ 13) (σ 14) (σ 15) (σ 16) (σ 17) (σ 18) (σ 19) (σ 20) (σ 21) (σ 22)) (v := .int 1) (ty := .int) hx hb hg hin_M tyM tyM_ok nM hown hK hP hD hS 0 rfl rfl 0 (by decide) (hg _ gw_494) (fun _ h => h) rfl (by decide +kernel) rfl rfl (Nat.le_of_ble_eq_true rfl) dM_at_14 rfl (fun H locs hP hD hS => ?_)
    refine lv_aload_n hx hb dM_at_17 rfl (lv_at hl 0 rfl) ?_
    refine va_get (v := .int 1) hx hb hg hin_M hown hK hP 0 rfl rfl 0 (by decide) (hg _ gw_494) (fun _ h => h) rfl dM_at_18 ?_
    refine lv_if_le (tgt := 28) hx hb dM_at_21 (by decide) (fun h => absurd h (by decide)) (fun _ => ?_)
    refine lv_iconst (v := 0) hx hb dM_at_24 (by decide) ?_
    refine lv_goto (tgt := 29) hx hb dM_at_25 (by decide) ?_
    have hk9 : kM_at σ ln = (0, mkM 1 (σ 0 1) (σ 0 2) (σ 0 3) (σ 0 4) (σ 0 5) (σ 1) (σ 2) (σ 3) (σ 4) (σ 5) (σ 6) (σ 7) (σ 8) (σ 9) (σ 10) (σ 11) (σ 12) (σ 13) (σ 14) (σ 15) (σ 16) (σ 17) (σ 18) (σ 19) (σ 20) (σ 21) (σ 22)) := by subst e_5; unfold kM_at; rw [if_neg h6]
    exact kx_iret hx hb hr hlocks hK hP hD hS (by rw [hk9]) (u := (u_1, u_2, u_3)) (by rw [hk9] <;> rfl) dM_at_29
