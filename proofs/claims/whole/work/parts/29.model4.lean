/-! the reference: reads, bills -/
theorem kx_at {σ : KS} {ln : Int32} {nl : Nat} (hnl : σ 0 2 = nI nl) (hn3 : nl ≤ 3) : vp_in (kM_at σ ln).1 3 := by
  unfold kM_at
  split
  · rename_i h
    exact kx_none hnl hn3 h
  · show vp_in 0 3
    unfold vp_in
    decide
theorem kx_at_today (σ : KS) (ln : Int32) : (kM_at σ ln).2 0 1 = σ 0 1 := by
  unfold kM_at
  split <;> rfl
theorem kx_win {v a b : Int32} (h : ¬ kM_within v a b = 0) : a.toInt ≤ v.toInt ∧ v.toInt ≤ b.toInt := by
  unfold kM_within at h
  by_cases h1 : v < a
  · exact absurd (if_pos h1) h
  · by_cases h2 : b < v
    · exact absurd ((if_neg h1).trans (if_pos h2)) h
    · rw [Int32.lt_iff_toInt_lt] at h1 h2
      omega
theorem kx_win4 {v : Int32} (h : ¬ kM_within v 0 3 = 0) : 0 ≤ v.toInt ∧ v.toInt < 4 := by
  have h := kx_win h
  have e0 : (0 : Int32).toInt = 0 := by decide
  have e3 : (3 : Int32).toInt = 3 := by decide
  omega
theorem kx_win6 {v : Int32} (h : ¬ kM_within v 0 5 = 0) : 0 ≤ v.toInt ∧ v.toInt < 6 := by
  have h := kx_win h
  have e0 : (0 : Int32).toInt = 0 := by decide
  have e3 : (5 : Int32).toInt = 5 := by decide
  omega
theorem kx_winb {v B : Int32} (hB : 0 ≤ B.toInt ∧ B.toInt ≤ 60) (h : ¬ kM_within v 0 (B - 1) = 0) : 0 ≤ v.toInt ∧ v.toInt < 60 := by
  have h := kx_win h
  have e0 : (0 : Int32).toInt = 0 := by decide
  have e1 : (B - 1).toInt = B.toInt - 1 := by
    rw [Int32.toInt_sub]
    have : (1 : Int32).toInt = 1 := by decide
    exact Int.bmod_eq_of_le (by omega) (by omega)
  omega
theorem kx_win4000 {v a : Int32} (h : ¬ kM_within v a 4000 = 0) : v ≤ 1073741824 := by
  have h := kx_win h
  rw [Int32.le_iff_toInt_le]
  have e0 : (4000 : Int32).toInt = 4000 := by decide
  have e1 : (1073741824 : Int32).toInt = 1073741824 := by decide
  omega
def kz_in (x : Int32) : Prop := x = 0 ∨ x = 1
theorem kz_nar {x : Int32} (h : kz_in x) : narrow .boolean (.int x) = .int x := by
  rcases h with rfl | rfl <;> rfl
theorem kn_sB {i B : Int32} (h : kn_in i 60) (h2 : ¬ B ≤ i) (hB : B.toInt ≤ 60) : kn_in (i + 1) 60 ∧ (0 ≤ i.toInt ∧ i.toInt < 60) := by
  obtain ⟨k, hk, rfl⟩ := h
  rw [Int32.le_iff_toInt_le, nI_toInt (by omega)] at h2
  rw [nI_toInt (by omega)]
  exact ⟨⟨k + 1, by omega, nI_1 k⟩, by omega⟩
def kM_principal (σ : KS) (ln : Int32) : Int32 × KS := ((kM_seen ((kM_at σ ln).2) ln (((kM_at σ ln).2) 7 ((kM_at σ ln).1).toNatClampNeg)), ((kM_at σ ln).2))
abbrev wgM_principal : List Cond := .code yM_principal cM_principal 3 (some .int) :: GW
abbrev rm_M_principal : Room := { frames := 3, cells := 0, slots := 0, locals := 65 }
set_option maxRecDepth 100000 in
set_option maxHeartbeats 4000000 in
theorem c_M_principal (l : Launch) (D : va_G) (G : Nat → ClassId) (b : Nat → Nat) (σ : KS) (u0 : Int32 × Int32 × Int32) (ln : Int32) (sz : Nat) (nl : Nat) (hnl : σ 0 2 = nI nl) (hn3 : nl ≤ 3) : Met l yM_principal wgM_principal rm_M_principal (kw_Pc D vwCl (gt G) [.ref (b 0), .int ln] (mcells G b (scr σ u0)) sz) (kx_i D vwCl (gt G) (mcells G b (scr σ u0)) sz ((kM_principal σ ln).1) (fun u => mcells G b (scr ((kM_principal σ ln).2) u))) 0 0 (va_A (mcells G b (scr σ u0)) sz) := by
  refine Met.ofW (cc := cM_principal) (maxL := 3) (ret := (some .int)) (by decide) rfl ?_
  intro p e s m args below meth c s₁ B hml hv
  have hx := B.exec
  have hb := B.bytes
  have hr := B.returns
  have hts := atoms_spec (ws := wgM_principal) B.pre
  have hg : ∀ w ∈ GW, w.before args s = true := fun w h => hts w (List.mem_cons_of_mem _ h)
  have hown : s.vm.findClass RM = some m.cls := findClass_of_methodNamed B.named
  have hlocks := B.notSynchronized
  obtain ⟨hv, hsz, hP, hK, hD0⟩ := hv
  subst hsz
  have hD := hD0.self (sz := s.heap.size)
  have hS : va_S (va_A (mcells G b (scr σ u0)) s.heap.size) s.heap s.heap [] := va_S.rf
  refine kw_entry [.ref (b 0), .int ln] hv (Nat.le_of_ble_eq_true rfl) (fun ls hl => ?_)
  have hl : lv_has ls 3 [(0, .ref (b 0)), (1, .int ln)] := hl
  refine lv_aload_n hx hb dM_principal_0 rfl (lv_at hl 0 rfl) ?_
  refine lv_iload_n hx hb dM_principal_1 rfl (lv_at hl 1 rfl) ?_
  refine kx_reti0 (va_runV (C := RM) (As := [.int ln]) (rest := []) ⟨hx, hb, hml, hown, hg⟩ (c_M_at l D G b σ (u0.1, u0.2.1, u0.2.2) ln _) ⟨kw_cB (n := 1) hg gw_699 gw_2 gw_697 (by decide +kernel) (by decide +kernel) ⟨Nat.le_of_ble_eq_true rfl, Nat.le_of_ble_eq_true rfl⟩ rfl rfl, hg _ gw_698, hg _ gw_758⟩ (kw_preV (q0 := 0) hK hP hD rfl rfl) rfl rfl hl.1 rfl (lv_room (Nat.le_of_ble_eq_true rfl)) dM_principal_2 ⟨Nat.le_of_ble_eq_true rfl, Nat.le_of_ble_eq_true rfl⟩) hP hD hS (fun _ h => Or.inr h) (fun u_1 u_2 u_3 H locs hP hD hS => ?_)
  refine lv_topi (fun r_4 e_5 => ?_)
  replace e_5 := e_5.symm
  obtain ⟨S_6, e_7⟩ : ∃ z : KS, (kM_at σ ln).2 = z := ⟨_, rfl⟩
  rw [e_7] at hP hD
  refine lv_istore_n hx hb dM_principal_5 rfl hl (by decide) rfl (fun ls hl => ?_)
  have hl : lv_has ls 3 [(2, .int r_4), (0, .ref (b 0)), (1, .int ln)] := hl
  refine lv_aload_n hx hb dM_principal_6 rfl (lv_at hl 1 rfl) ?_
  refine lv_iload_n hx hb dM_principal_7 rfl (lv_at hl 2 rfl) ?_
  refine lv_aload_n hx hb dM_principal_8 rfl (lv_at hl 1 rfl) ?_
  refine va_get (v := .ref (b 9)) hx hb hg hin_M hown hK hP 0 rfl rfl 9 (by decide) (hg _ gw_503) (fun _ h => h) rfl dM_principal_9 ?_
  refine lv_iload_n hx hb dM_principal_12 rfl (lv_at hl 0 rfl) ?_
  refine kw_iald (v := S_6 7 r_4.toNatClampNeg) (j := r_4.toNatClampNeg) hx hb hK hP 7 0 rfl rfl (by subst e_5 e_7; exact kx_at hnl hn3) rfl rfl dM_principal_13 ?_
  refine kx_reti0 (va_runV (C := RM) (As := [.int ln, .int (S_6 7 r_4.toNatClampNeg)]) (rest := []) ⟨hx, hb, hml, hown, hg⟩ (c_M_seen l D G b S_6 (u_1, u_2, u_3) ln (S_6 7 r_4.toNatClampNeg) _) ⟨kw_cB (n := 2) hg gw_702 gw_2 gw_700 (by decide +kernel) (by decide +kernel) ⟨Nat.le_of_ble_eq_true rfl, Nat.le_of_ble_eq_true rfl⟩ rfl rfl, hg _ gw_701, hg _ gw_759⟩ (kw_preV (q0 := 0) hK hP hD rfl rfl) rfl rfl hl.1 rfl (lv_room (Nat.le_of_ble_eq_true rfl)) dM_principal_14 ⟨Nat.le_of_ble_eq_true rfl, Nat.le_of_ble_eq_true rfl⟩) hP hD hS (fun _ h => Or.inr h) (fun u_8 u_9 u_10 H locs hP hD hS => ?_)
  refine lv_topi (fun r_11 e_12 => ?_)
  replace e_12 := e_12.symm
  have hk9 : kM_principal σ ln = (r_11, S_6) := by subst e_5 e_7 e_12; rfl
  exact kx_iret hx hb hr hlocks hK hP hD hS (by rw [hk9]) (u := (u_8, u_9, u_10)) (by rw [hk9] <;> rfl) dM_principal_17
def kM_level (σ : KS) (ln : Int32) : Int32 × KS := ((kM_seen ((kM_at σ ln).2) ln (((kM_at σ ln).2) 8 ((kM_at σ ln).1).toNatClampNeg)), ((kM_at σ ln).2))
abbrev wgM_level : List Cond := .code yM_level cM_level 3 (some .int) :: GW
abbrev rm_M_level : Room := { frames := 3, cells := 0, slots := 0, locals := 65 }
set_option maxRecDepth 100000 in
set_option maxHeartbeats 4000000 in
theorem c_M_level (l : Launch) (D : va_G) (G : Nat → ClassId) (b : Nat → Nat) (σ : KS) (u0 : Int32 × Int32 × Int32) (ln : Int32) (sz : Nat) (nl : Nat) (hnl : σ 0 2 = nI nl) (hn3 : nl ≤ 3) : Met l yM_level wgM_level rm_M_level (kw_Pc D vwCl (gt G) [.ref (b 0), .int ln] (mcells G b (scr σ u0)) sz) (kx_i D vwCl (gt G) (mcells G b (scr σ u0)) sz ((kM_level σ ln).1) (fun u => mcells G b (scr ((kM_level σ ln).2) u))) 0 0 (va_A (mcells G b (scr σ u0)) sz) := by
  refine Met.ofW (cc := cM_level) (maxL := 3) (ret := (some .int)) (by decide) rfl ?_
  intro p e s m args below meth c s₁ B hml hv
  have hx := B.exec
  have hb := B.bytes
  have hr := B.returns
  have hts := atoms_spec (ws := wgM_level) B.pre
  have hg : ∀ w ∈ GW, w.before args s = true := fun w h => hts w (List.mem_cons_of_mem _ h)
  have hown : s.vm.findClass RM = some m.cls := findClass_of_methodNamed B.named
  have hlocks := B.notSynchronized
  obtain ⟨hv, hsz, hP, hK, hD0⟩ := hv
  subst hsz
  have hD := hD0.self (sz := s.heap.size)
  have hS : va_S (va_A (mcells G b (scr σ u0)) s.heap.size) s.heap s.heap [] := va_S.rf
  refine kw_entry [.ref (b 0), .int ln] hv (Nat.le_of_ble_eq_true rfl) (fun ls hl => ?_)
  have hl : lv_has ls 3 [(0, .ref (b 0)), (1, .int ln)] := hl
  refine lv_aload_n hx hb dM_level_0 rfl (lv_at hl 0 rfl) ?_
  refine lv_iload_n hx hb dM_level_1 rfl (lv_at hl 1 rfl) ?_
  refine kx_reti0 (va_runV (C := RM) (As := [.int ln]) (rest := []) ⟨hx, hb, hml, hown, hg⟩ (c_M_at l D G b σ (u0.1, u0.2.1, u0.2.2) ln _) ⟨kw_cB (n := 1) hg gw_699 gw_2 gw_697 (by decide +kernel) (by decide +kernel) ⟨Nat.le_of_ble_eq_true rfl, Nat.le_of_ble_eq_true rfl⟩ rfl rfl, hg _ gw_698, hg _ gw_758⟩ (kw_preV (q0 := 0) hK hP hD rfl rfl) rfl rfl hl.1 rfl (lv_room (Nat.le_of_ble_eq_true rfl)) dM_level_2 ⟨Nat.le_of_ble_eq_true rfl, Nat.le_of_ble_eq_true rfl⟩) hP hD hS (fun _ h => Or.inr h) (fun u_1 u_2 u_3 H locs hP hD hS => ?_)
  refine lv_topi (fun r_4 e_5 => ?_)
  replace e_5 := e_5.symm
  obtain ⟨S_6, e_7⟩ : ∃ z : KS, (kM_at σ ln).2 = z := ⟨_, rfl⟩
  rw [e_7] at hP hD
  refine lv_istore_n hx hb dM_level_5 rfl hl (by decide) rfl (fun ls hl => ?_)
  have hl : lv_has ls 3 [(2, .int r_4), (0, .ref (b 0)), (1, .int ln)] := hl
  refine lv_aload_n hx hb dM_level_6 rfl (lv_at hl 1 rfl) ?_
  refine lv_iload_n hx hb dM_level_7 rfl (lv_at hl 2 rfl) ?_
  refine lv_aload_n hx hb dM_level_8 rfl (lv_at hl 1 rfl) ?_
  refine va_get (v := .ref (b 10)) hx hb hg hin_M hown hK hP 0 rfl rfl 10 (by decide) (hg _ gw_504) (fun _ h => h) rfl dM_level_9 ?_
  refine lv_iload_n hx hb dM_level_12 rfl (lv_at hl 0 rfl) ?_
  refine kw_iald (v := S_6 8 r_4.toNatClampNeg) (j := r_4.toNatClampNeg) hx hb hK hP 8 0 rfl rfl (by subst e_5 e_7; exact kx_at hnl hn3) rfl rfl dM_level_13 ?_
  refine kx_reti0 (va_runV (C := RM) (As := [.int ln, .int (S_6 8 r_4.toNatClampNeg)]) (rest := []) ⟨hx, hb, hml, hown, hg⟩ (c_M_seen l D G b S_6 (u_1, u_2, u_3) ln (S_6 8 r_4.toNatClampNeg) _) ⟨kw_cB (n := 2) hg gw_702 gw_2 gw_700 (by decide +kernel) (by decide +kernel) ⟨Nat.le_of_ble_eq_true rfl, Nat.le_of_ble_eq_true rfl⟩ rfl rfl, hg _ gw_701, hg _ gw_759⟩ (kw_preV (q0 := 0) hK hP hD rfl rfl) rfl rfl hl.1 rfl (lv_room (Nat.le_of_ble_eq_true rfl)) dM_level_14 ⟨Nat.le_of_ble_eq_true rfl, Nat.le_of_ble_eq_true rfl⟩) hP hD hS (fun _ h => Or.inr h) (fun u_8 u_9 u_10 H locs hP hD hS => ?_)
  refine lv_topi (fun r_11 e_12 => ?_)
  replace e_12 := e_12.symm
  have hk9 : kM_level σ ln = (r_11, S_6) := by subst e_5 e_7 e_12; rfl
  exact kx_iret hx hb hr hlocks hK hP hD hS (by rw [hk9]) (u := (u_8, u_9, u_10)) (by rw [hk9] <;> rfl) dM_level_17
def kM_escrow (σ : KS) (ln : Int32) : Int32 × KS := ((kM_seen ((kM_at σ ln).2) ln (((kM_at σ ln).2) 11 ((kM_at σ ln).1).toNatClampNeg)), ((kM_at σ ln).2))
abbrev wgM_escrow : List Cond := .code yM_escrow cM_escrow 3 (some .int) :: GW
abbrev rm_M_escrow : Room := { frames := 3, cells := 0, slots := 0, locals := 65 }
set_option maxRecDepth 100000 in
set_option maxHeartbeats 4000000 in
theorem c_M_escrow (l : Launch) (D : va_G) (G : Nat → ClassId) (b : Nat → Nat) (σ : KS) (u0 : Int32 × Int32 × Int32) (ln : Int32) (sz : Nat) (nl : Nat) (hnl : σ 0 2 = nI nl) (hn3 : nl ≤ 3) : Met l yM_escrow wgM_escrow rm_M_escrow (kw_Pc D vwCl (gt G) [.ref (b 0), .int ln] (mcells G b (scr σ u0)) sz) (kx_i D vwCl (gt G) (mcells G b (scr σ u0)) sz ((kM_escrow σ ln).1) (fun u => mcells G b (scr ((kM_escrow σ ln).2) u))) 0 0 (va_A (mcells G b (scr σ u0)) sz) := by
  refine Met.ofW (cc := cM_escrow) (maxL := 3) (ret := (some .int)) (by decide) rfl ?_
  intro p e s m args below meth c s₁ B hml hv
  have hx := B.exec
  have hb := B.bytes
  have hr := B.returns
  have hts := atoms_spec (ws := wgM_escrow) B.pre
  have hg : ∀ w ∈ GW, w.before args s = true := fun w h => hts w (List.mem_cons_of_mem _ h)
  have hown : s.vm.findClass RM = some m.cls := findClass_of_methodNamed B.named
  have hlocks := B.notSynchronized
  obtain ⟨hv, hsz, hP, hK, hD0⟩ := hv
  subst hsz
  have hD := hD0.self (sz := s.heap.size)
  have hS : va_S (va_A (mcells G b (scr σ u0)) s.heap.size) s.heap s.heap [] := va_S.rf
  refine kw_entry [.ref (b 0), .int ln] hv (Nat.le_of_ble_eq_true rfl) (fun ls hl => ?_)
  have hl : lv_has ls 3 [(0, .ref (b 0)), (1, .int ln)] := hl
  refine lv_aload_n hx hb dM_escrow_0 rfl (lv_at hl 0 rfl) ?_
  refine lv_iload_n hx hb dM_escrow_1 rfl (lv_at hl 1 rfl) ?_
  refine kx_reti0 (va_runV (C := RM) (As := [.int ln]) (rest := []) ⟨hx, hb, hml, hown, hg⟩ (c_M_at l D G b σ (u0.1, u0.2.1, u0.2.2) ln _) ⟨kw_cB (n := 1) hg gw_699 gw_2 gw_697 (by decide +kernel) (by decide +kernel) ⟨Nat.le_of_ble_eq_true rfl, Nat.le_of_ble_eq_true rfl⟩ rfl rfl, hg _ gw_698, hg _ gw_758⟩ (kw_preV (q0 := 0) hK hP hD rfl rfl) rfl rfl hl.1 rfl (lv_room (Nat.le_of_ble_eq_true rfl)) dM_escrow_2 ⟨Nat.le_of_ble_eq_true rfl, Nat.le_of_ble_eq_true rfl⟩) hP hD hS (fun _ h => Or.inr h) (fun u_1 u_2 u_3 H locs hP hD hS => ?_)
  refine lv_topi (fun r_4 e_5 => ?_)
  replace e_5 := e_5.symm
  obtain ⟨S_6, e_7⟩ : ∃ z : KS, (kM_at σ ln).2 = z := ⟨_, rfl⟩
  rw [e_7] at hP hD
  refine lv_istore_n hx hb dM_escrow_5 rfl hl (by decide) rfl (fun ls hl => ?_)
  have hl : lv_has ls 3 [(2, .int r_4), (0, .ref (b 0)), (1, .int ln)] := hl
  refine lv_aload_n hx hb dM_escrow_6 rfl (lv_at hl 1 rfl) ?_
  refine lv_iload_n hx hb dM_escrow_7 rfl (lv_at hl 2 rfl) ?_
  refine lv_aload_n hx hb dM_escrow_8 rfl (lv_at hl 1 rfl) ?_
  refine va_get (v := .ref (b 13)) hx hb hg hin_M hown hK hP 0 rfl rfl 13 (by decide) (hg _ gw_507) (fun _ h => h) rfl dM_escrow_9 ?_
  refine lv_iload_n hx hb dM_escrow_12 rfl (lv_at hl 0 rfl) ?_
  refine kw_iald (v := S_6 11 r_4.toNatClampNeg) (j := r_4.toNatClampNeg) hx hb hK hP 11 0 rfl rfl (by subst e_5 e_7; exact kx_at hnl hn3) rfl rfl dM_escrow_13 ?_
  refine kx_reti0 (va_runV (C := RM) (As := [.int ln, .int (S_6 11 r_4.toNatClampNeg)]) (rest := []) ⟨hx, hb, hml, hown, hg⟩ (c_M_seen l D G b S_6 (u_1, u_2, u_3) ln (S_6 11 r_4.toNatClampNeg) _) ⟨kw_cB (n := 2) hg gw_702 gw_2 gw_700 (by decide +kernel) (by decide +kernel) ⟨Nat.le_of_ble_eq_true rfl, Nat.le_of_ble_eq_true rfl⟩ rfl rfl, hg _ gw_701, hg _ gw_759⟩ (kw_preV (q0 := 0) hK hP hD rfl rfl) rfl rfl hl.1 rfl (lv_room (Nat.le_of_ble_eq_true rfl)) dM_escrow_14 ⟨Nat.le_of_ble_eq_true rfl, Nat.le_of_ble_eq_true rfl⟩) hP hD hS (fun _ h => Or.inr h) (fun u_8 u_9 u_10 H locs hP hD hS => ?_)
  refine lv_topi (fun r_11 e_12 => ?_)
  replace e_12 := e_12.symm
  have hk9 : kM_escrow σ ln = (r_11, S_6) := by subst e_5 e_7 e_12; rfl
  exact kx_iret hx hb hr hlocks hK hP hD hS (by rw [hk9]) (u := (u_8, u_9, u_10)) (by rw [hk9] <;> rfl) dM_escrow_17
def kM_deposit (σ : KS) (ln : Int32) : Int32 × KS := ((kM_seen ((kM_at σ ln).2) ln (((kM_at σ ln).2) 13 ((kM_at σ ln).1).toNatClampNeg)), ((kM_at σ ln).2))
abbrev wgM_deposit : List Cond := .code yM_deposit cM_deposit 3 (some .int) :: GW
abbrev rm_M_deposit : Room := { frames := 3, cells := 0, slots := 0, locals := 65 }
set_option maxRecDepth 100000 in
set_option maxHeartbeats 4000000 in
theorem c_M_deposit (l : Launch) (D : va_G) (G : Nat → ClassId) (b : Nat → Nat) (σ : KS) (u0 : Int32 × Int32 × Int32) (ln : Int32) (sz : Nat) (nl : Nat) (hnl : σ 0 2 = nI nl) (hn3 : nl ≤ 3) : Met l yM_deposit wgM_deposit rm_M_deposit (kw_Pc D vwCl (gt G) [.ref (b 0), .int ln] (mcells G b (scr σ u0)) sz) (kx_i D vwCl (gt G) (mcells G b (scr σ u0)) sz ((kM_deposit σ ln).1) (fun u => mcells G b (scr ((kM_deposit σ ln).2) u))) 0 0 (va_A (mcells G b (scr σ u0)) sz) := by
  refine Met.ofW (cc := cM_deposit) (maxL := 3) (ret := (some .int)) (by decide) rfl ?_
  intro p e s m args below meth c s₁ B hml hv
  have hx := B.exec
  have hb := B.bytes
  have hr := B.returns
  have hts := atoms_spec (ws := wgM_deposit) B.pre
  have hg : ∀ w ∈ GW, w.before args s = true := fun w h => hts w (List.mem_cons_of_mem _ h)
  have hown : s.vm.findClass RM = some m.cls := findClass_of_methodNamed B.named
  have hlocks := B.notSynchronized
  obtain ⟨hv, hsz, hP, hK, hD0⟩ := hv
  subst hsz
  have hD := hD0.self (sz := s.heap.size)
  have hS : va_S (va_A (mcells G b (scr σ u0)) s.heap.size) s.heap s.heap [] := va_S.rf
  refine kw_entry [.ref (b 0), .int ln] hv (Nat.le_of_ble_eq_true rfl) (fun ls hl => ?_)
  have hl : lv_has ls 3 [(0, .ref (b 0)), (1, .int ln)] := hl
  refine lv_aload_n hx hb dM_deposit_0 rfl (lv_at hl 0 rfl) ?_
  refine lv_iload_n hx hb dM_deposit_1 rfl (lv_at hl 1 rfl) ?_
  refine kx_reti0 (va_runV (C := RM) (As := [.int ln]) (rest := []) ⟨hx, hb, hml, hown, hg⟩ (c_M_at l D G b σ (u0.1, u0.2.1, u0.2.2) ln _) ⟨kw_cB (n := 1) hg gw_699 gw_2 gw_697 (by decide +kernel) (by decide +kernel) ⟨Nat.le_of_ble_eq_true rfl, Nat.le_of_ble_eq_true rfl⟩ rfl rfl, hg _ gw_698, hg _ gw_758⟩ (kw_preV (q0 := 0) hK hP hD rfl rfl) rfl rfl hl.1 rfl (lv_room (Nat.le_of_ble_eq_true rfl)) dM_deposit_2 ⟨Nat.le_of_ble_eq_true rfl, Nat.le_of_ble_eq_true rfl⟩) hP hD hS (fun _ h => Or.inr h) (fun u_1 u_2 u_3 H locs hP hD hS => ?_)
  refine lv_topi (fun r_4 e_5 => ?_)
  replace e_5 := e_5.symm
  obtain ⟨S_6, e_7⟩ : ∃ z : KS, (kM_at σ ln).2 = z := ⟨_, rfl⟩
  rw [e_7] at hP hD
  refine lv_istore_n hx hb dM_deposit_5 rfl hl (by decide) rfl (fun ls hl => ?_)
  have hl : lv_has ls 3 [(2, .int r_4), (0, .ref (b 0)), (1, .int ln)] := hl
  refine lv_aload_n hx hb dM_deposit_6 rfl (lv_at hl 1 rfl) ?_
  refine lv_iload_n hx hb dM_deposit_7 rfl (lv_at hl 2 rfl) ?_
  refine lv_aload_n hx hb dM_deposit_8 rfl (lv_at hl 1 rfl) ?_
  refine va_get (v := .ref (b 15)) hx hb hg hin_M hown hK hP 0 rfl rfl 15 (by decide) (hg _ gw_509) (fun _ h => h) rfl dM_deposit_9 ?_
  refine lv_iload_n hx hb dM_deposit_12 rfl (lv_at hl 0 rfl) ?_
  refine kw_iald (v := S_6 13 r_4.toNatClampNeg) (j := r_4.toNatClampNeg) hx hb hK hP 13 0 rfl rfl (by subst e_5 e_7; exact kx_at hnl hn3) rfl rfl dM_deposit_13 ?_
  refine kx_reti0 (va_runV (C := RM) (As := [.int ln, .int (S_6 13 r_4.toNatClampNeg)]) (rest := []) ⟨hx, hb, hml, hown, hg⟩ (c_M_seen l D G b S_6 (u_1, u_2, u_3) ln (S_6 13 r_4.toNatClampNeg) _) ⟨kw_cB (n := 2) hg gw_702 gw_2 gw_700 (by decide +kernel) (by decide +kernel) ⟨Nat.le_of_ble_eq_true rfl, Nat.le_of_ble_eq_true rfl⟩ rfl rfl, hg _ gw_701, hg _ gw_759⟩ (kw_preV (q0 := 0) hK hP hD rfl rfl) rfl rfl hl.1 rfl (lv_room (Nat.le_of_ble_eq_true rfl)) dM_deposit_14 ⟨Nat.le_of_ble_eq_true rfl, Nat.le_of_ble_eq_true rfl⟩) hP hD hS (fun _ h => Or.inr h) (fun u_8 u_9 u_10 H locs hP hD hS => ?_)
  refine lv_topi (fun r_11 e_12 => ?_)
  replace e_12 := e_12.symm
  have hk9 : kM_deposit σ ln = (r_11, S_6) := by subst e_5 e_7 e_12; rfl
  exact kx_iret hx hb hr hlocks hK hP hD hS (by rw [hk9]) (u := (u_8, u_9, u_10)) (by rw [hk9] <;> rfl) dM_deposit_17
def kM_bills (σ : KS) (ln : Int32) : Int32 × KS := ((kM_seen ((kM_at σ ln).2) ln (((kM_at σ ln).2) 17 ((kM_at σ ln).1).toNatClampNeg)), ((kM_at σ ln).2))
abbrev wgM_bills : List Cond := .code yM_bills cM_bills 3 (some .int) :: GW
abbrev rm_M_bills : Room := { frames := 3, cells := 0, slots := 0, locals := 65 }
set_option maxRecDepth 100000 in
set_option maxHeartbeats 4000000 in
theorem c_M_bills (l : Launch) (D : va_G) (G : Nat → ClassId) (b : Nat → Nat) (σ : KS) (u0 : Int32 × Int32 × Int32) (ln : Int32) (sz : Nat) (nl : Nat) (hnl : σ 0 2 = nI nl) (hn3 : nl ≤ 3) : Met l yM_bills wgM_bills rm_M_bills (kw_Pc D vwCl (gt G) [.ref (b 0), .int ln] (mcells G b (scr σ u0)) sz) (kx_i D vwCl (gt G) (mcells G b (scr σ u0)) sz ((kM_bills σ ln).1) (fun u => mcells G b (scr ((kM_bills σ ln).2) u))) 0 0 (va_A (mcells G b (scr σ u0)) sz) := by
  refine Met.ofW (cc := cM_bills) (maxL := 3) (ret := (some .int)) (by decide) rfl ?_
  intro p e s m args below meth c s₁ B hml hv
  have hx := B.exec
  have hb := B.bytes
  have hr := B.returns
  have hts := atoms_spec (ws := wgM_bills) B.pre
  have hg : ∀ w ∈ GW, w.before args s = true := fun w h => hts w (List.mem_cons_of_mem _ h)
  have hown : s.vm.findClass RM = some m.cls := findClass_of_methodNamed B.named
  have hlocks := B.notSynchronized
  obtain ⟨hv, hsz, hP, hK, hD0⟩ := hv
  subst hsz
  have hD := hD0.self (sz := s.heap.size)
  have hS : va_S (va_A (mcells G b (scr σ u0)) s.heap.size) s.heap s.heap [] := va_S.rf
  refine kw_entry [.ref (b 0), .int ln] hv (Nat.le_of_ble_eq_true rfl) (fun ls hl => ?_)
  have hl : lv_has ls 3 [(0, .ref (b 0)), (1, .int ln)] := hl
  refine lv_aload_n hx hb dM_bills_0 rfl (lv_at hl 0 rfl) ?_
  refine lv_iload_n hx hb dM_bills_1 rfl (lv_at hl 1 rfl) ?_
  refine kx_reti0 (va_runV (C := RM) (As := [.int ln]) (rest := []) ⟨hx, hb, hml, hown, hg⟩ (c_M_at l D G b σ (u0.1, u0.2.1, u0.2.2) ln _) ⟨kw_cB (n := 1) hg gw_699 gw_2 gw_697 (by decide +kernel) (by decide +kernel) ⟨Nat.le_of_ble_eq_true rfl, Nat.le_of_ble_eq_true rfl⟩ rfl rfl, hg _ gw_698, hg _ gw_758⟩ (kw_preV (q0 := 0) hK hP hD rfl rfl) rfl rfl hl.1 rfl (lv_room (Nat.le_of_ble_eq_true rfl)) dM_bills_2 ⟨Nat.le_of_ble_eq_true rfl, Nat.le_of_ble_eq_true rfl⟩) hP hD hS (fun _ h => Or.inr h) (fun u_1 u_2 u_3 H locs hP hD hS => ?_)
  refine lv_topi (fun r_4 e_5 => ?_)
  replace e_5 := e_5.symm
  obtain ⟨S_6, e_7⟩ : ∃ z : KS, (kM_at σ ln).2 = z := ⟨_, rfl⟩
  rw [e_7] at hP hD
  refine lv_istore_n hx hb dM_bills_5 rfl hl (by decide) rfl (fun ls hl => ?_)
  have hl : lv_has ls 3 [(2, .int r_4), (0, .ref (b 0)), (1, .int ln)] := hl
  refine lv_aload_n hx hb dM_bills_6 rfl (lv_at hl 1 rfl) ?_
  refine lv_iload_n hx hb dM_bills_7 rfl (lv_at hl 2 rfl) ?_
  refine lv_aload_n hx hb dM_bills_8 rfl (lv_at hl 1 rfl) ?_
  refine va_get (v := .ref (b 19)) hx hb hg hin_M hown hK hP 0 rfl rfl 19 (by decide) (hg _ gw_513) (fun _ h => h) rfl dM_bills_9 ?_
  refine lv_iload_n hx hb dM_bills_12 rfl (lv_at hl 0 rfl) ?_
  refine kw_iald (v := S_6 17 r_4.toNatClampNeg) (j := r_4.toNatClampNeg) hx hb hK hP 17 0 rfl rfl (by subst e_5 e_7; exact kx_at hnl hn3) rfl rfl dM_bills_13 ?_
  refine kx_reti0 (va_runV (C := RM) (As := [.int ln, .int (S_6 17 r_4.toNatClampNeg)]) (rest := []) ⟨hx, hb, hml, hown, hg⟩ (c_M_seen l D G b S_6 (u_1, u_2, u_3) ln (S_6 17 r_4.toNatClampNeg) _) ⟨kw_cB (n := 2) hg gw_702 gw_2 gw_700 (by decide +kernel) (by decide +kernel) ⟨Nat.le_of_ble_eq_true rfl, Nat.le_of_ble_eq_true rfl⟩ rfl rfl, hg _ gw_701, hg _ gw_759⟩ (kw_preV (q0 := 0) hK hP hD rfl rfl) rfl rfl hl.1 rfl (lv_room (Nat.le_of_ble_eq_true rfl)) dM_bills_14 ⟨Nat.le_of_ble_eq_true rfl, Nat.le_of_ble_eq_true rfl⟩) hP hD hS (fun _ h => Or.inr h) (fun u_8 u_9 u_10 H locs hP hD hS => ?_)
  refine lv_topi (fun r_11 e_12 => ?_)
  replace e_12 := e_12.symm
  have hk9 : kM_bills σ ln = (r_11, S_6) := by subst e_5 e_7 e_12; rfl
  exact kx_iret hx hb hr hlocks hK hP hD hS (by rw [hk9]) (u := (u_8, u_9, u_10)) (by rw [hk9] <;> rfl) dM_bills_17
def kM_owed (σ : KS) (ln : Int32) (what : Int32) : Int32 × KS := if (kM_none σ ln) = (0 : Int32) then (if (kM_within what (0 : Int32) (3 : Int32)) = (0 : Int32) then (0, mkM 2 (σ 0 1) (σ 0 2) (σ 0 3) (σ 0 4) (σ 0 5) (σ 1) (σ 2) (σ 3) (σ 4) (σ 5) (σ 6) (σ 7) (σ 8) (σ 9) (σ 10) (σ 11) (σ 12) (σ 13) (σ 14) (σ 15) (σ 16) (σ 17) (σ 18) (σ 19) (σ 20) (σ 21) (σ 22)) else (σ 14 (((4 * ln) + what).toNatClampNeg), mkM 0 (σ 0 1) (σ 0 2) (σ 0 3) (σ 0 4) (σ 0 5) (σ 1) (σ 2) (σ 3) (σ 4) (σ 5) (σ 6) (σ 7) (σ 8) (σ 9) (σ 10) (σ 11) (σ 12) (σ 13) (σ 14) (σ 15) (σ 16) (σ 17) (σ 18) (σ 19) (σ 20) (σ 21) (σ 22))) else (0, mkM 1 (σ 0 1) (σ 0 2) (σ 0 3) (σ 0 4) (σ 0 5) (σ 1) (σ 2) (σ 3) (σ 4) (σ 5) (σ 6) (σ 7) (σ 8) (σ 9) (σ 10) (σ 11) (σ 12) (σ 13) (σ 14) (σ 15) (σ 16) (σ 17) (σ 18) (σ 19) (σ 20) (σ 21) (σ 22))
abbrev wgM_owed : List Cond := .code yM_owed cM_owed 3 (some .int) :: GW
abbrev rm_M_owed : Room := { frames := 2, cells := 0, slots := 0, locals := 43 }
set_option maxRecDepth 100000 in
set_option maxHeartbeats 4000000 in
theorem c_M_owed (l : Launch) (D : va_G) (G : Nat → ClassId) (b : Nat → Nat) (σ : KS) (u0 : Int32 × Int32 × Int32) (ln : Int32) (what : Int32) (sz : Nat) (nl : Nat) (hnl : σ 0 2 = nI nl) (hn3 : nl ≤ 3) : Met l yM_owed wgM_owed rm_M_owed (kw_Pc D vwCl (gt G) [.ref (b 0), .int ln, .int what] (mcells G b (scr σ u0)) sz) (kx_i D vwCl (gt G) (mcells G b (scr σ u0)) sz ((kM_owed σ ln what).1) (fun u => mcells G b (scr ((kM_owed σ ln what).2) u))) 0 0 (va_A (mcells G b (scr σ u0)) sz) := by
  refine Met.ofW (cc := cM_owed) (maxL := 3) (ret := (some .int)) (by decide) rfl ?_
  intro p e s m args below meth c s₁ B hml hv
  have hx := B.exec
  have hb := B.bytes
  have hr := B.returns
  have hts := atoms_spec (ws := wgM_owed) B.pre
  have hg : ∀ w ∈ GW, w.before args s = true := fun w h => hts w (List.mem_cons_of_mem _ h)
  have hown : s.vm.findClass RM = some m.cls := findClass_of_methodNamed B.named
  have hlocks := B.notSynchronized
  obtain ⟨hv, hsz, hP, hK, hD0⟩ := hv
  subst hsz
  have hD := hD0.self (sz := s.heap.size)
  have hS : va_S (va_A (mcells G b (scr σ u0)) s.heap.size) s.heap s.heap [] := va_S.rf
  refine kw_entry [.ref (b 0), .int ln, .int what] hv (Nat.le_of_ble_eq_true rfl) (fun ls hl => ?_)
  have hl : lv_has ls 3 [(0, .ref (b 0)), (1, .int ln), (2, .int what)] := hl
  refine lv_aload_n hx hb dM_owed_0 rfl (lv_at hl 0 rfl) ?_
  refine lv_aload_n hx hb dM_owed_1 rfl (lv_at hl 0 rfl) ?_
  refine lv_iload_n hx hb dM_owed_2 rfl (lv_at hl 1 rfl) ?_
  refine kx_reti0 (va_runV (C := RM) (As := [.int ln]) (rest := [.ref (b 0)]) ⟨hx, hb, hml, hown, hg⟩ (c_M_none l D G b σ (u0.1, u0.2.1, u0.2.2) ln _) ⟨kw_cB (n := 1) hg gw_655 gw_2 gw_653 (by decide +kernel) (by decide +kernel) ⟨Nat.le_of_ble_eq_true rfl, Nat.le_of_ble_eq_true rfl⟩ rfl rfl, hg _ gw_654, hg _ gw_752⟩ (kw_preV (q0 := 0) hK hP hD rfl rfl) rfl rfl hl.1 rfl (lv_room (Nat.le_of_ble_eq_true rfl)) dM_owed_3 ⟨Nat.le_of_ble_eq_true rfl, Nat.le_of_ble_eq_true rfl⟩) hP hD hS (fun _ h => Or.inr h) (fun u_1 u_2 u_3 H locs hP hD hS => ?_)
  refine lv_topi (fun r_4 e_5 => ?_)
  replace e_5 := e_5.symm
  refine lv_if_eq (tgt := 13) hx hb dM_owed_6 (by decide) (fun h6 => ?_) (fun h6 => ?_)
  · skip
    refine lv_iload_n hx hb dM_owed_13 rfl (lv_at hl 2 rfl) ?_
    refine lv_iconst (v := 0) hx hb dM_owed_14 (by decide) ?_
    refine lv_iconst (v := 3) hx hb dM_owed_15 (by decide) ?_
    refine kp_reti (va_runS (As := [.int what, .int 0, .int 3]) (rest := [.ref (b 0)]) ⟨hx, hb, hml, hown, hg⟩ (c_M_within l what (0 : Int32) (3 : Int32)) ⟨kw_cB (n := 3) hg gw_604 gw_2 gw_602 (by decide +kernel) (by decide +kernel) ⟨Nat.le_of_ble_eq_true rfl, Nat.le_of_ble_eq_true rfl⟩ rfl rfl, hg _ gw_603⟩ kp_pre rfl rfl hl.1 rfl (lv_room (Nat.le_of_ble_eq_true rfl)) dM_owed_16 ⟨Nat.le_of_ble_eq_true rfl, Nat.le_of_ble_eq_true rfl⟩) ?_
    refine lv_topi (fun r_7 e_8 => ?_)
    replace e_8 := e_8.symm
    refine lv_if_eq (tgt := 26) hx hb dM_owed_19 (by decide) (fun h9 => ?_) (fun h9 => ?_)
    · skip
      refine lv_iconst (v := 2) hx hb dM_owed_26 (by decide) ?_
      refine kw_put (w' := lm G b 2 (σ 0 1) (σ 0 2) u_1 u_2 u_3 (σ 1) (σ 2) (σ 3) (σ 4) (σ 5) (σ 6) (σ 7) (σ 8) (σ 9) (σ 10) (σ 11) (σ 12) (σ 13) (σ 14) (σ 15) (σ 16) (σ 17) (σ 18) (σ 19) (σ 20) (σ 21) (σ 22)) (v := .int 2) (ty := .int) hx hb hg hin_M tyM tyM_ok nM hown hK hP hD hS 0 rfl rfl 0 (by decide) (hg _ gw_494) (fun _ h => h) rfl (by decide +kernel) rfl rfl (Nat.le_of_ble_eq_true rfl) dM_owed_27 rfl (fun H locs hP hD hS => ?_)
      refine lv_aload_n hx hb dM_owed_30 rfl (lv_at hl 0 rfl) ?_
      refine va_get (v := .int 2) hx hb hg hin_M hown hK hP 0 rfl rfl 0 (by decide) (hg _ gw_494) (fun _ h => h) rfl dM_owed_31 ?_
      refine lv_if_le (tgt := 41) hx hb dM_owed_34 (by decide) (fun h => absurd h (by decide)) (fun _ => ?_)
      refine lv_iconst (v := 0) hx hb dM_owed_37 (by decide) ?_
      refine lv_goto (tgt := 51) hx hb dM_owed_38 (by decide) ?_
      have hk9 : kM_owed σ ln what = (0, mkM 2 (σ 0 1) (σ 0 2) (σ 0 3) (σ 0 4) (σ 0 5) (σ 1) (σ 2) (σ 3) (σ 4) (σ 5) (σ 6) (σ 7) (σ 8) (σ 9) (σ 10) (σ 11) (σ 12) (σ 13) (σ 14) (σ 15) (σ 16) (σ 17) (σ 18) (σ 19) (σ 20) (σ 21) (σ 22)) := by subst e_5 e_8; unfold kM_owed; rw [if_pos h6, if_pos h9]
      exact kx_iret hx hb hr hlocks hK hP hD hS (by rw [hk9]) (u := (u_1, u_2, u_3)) (by rw [hk9] <;> rfl) dM_owed_51
    · skip
      refine lv_iconst (v := 0) hx hb dM_owed_22 (by decide) ?_
      refine lv_goto (tgt := 27) hx hb dM_owed_23 (by decide) ?_
      refine kw_put (w' := lm G b 0 (σ 0 1) (σ 0 2) u_1 u_2 u_3 (σ 1) (σ 2) (σ 3) (σ 4) (σ 5) (σ 6) (σ 7) (σ 8) (σ 9) (σ 10) (σ 11) (σ 12) (σ 13) (σ 14) (σ 15) (σ 16) (σ 17) (σ 18) (σ 19) (σ 20) (σ 21) (σ 22)) (v := .int 0) (ty := .int) hx hb hg hin_M tyM tyM_ok nM hown hK hP hD hS 0 rfl rfl 0 (by decide) (hg _ gw_494) (fun _ h => h) rfl (by decide +kernel) rfl rfl (Nat.le_of_ble_eq_true rfl) dM_owed_27 rfl (fun H locs hP hD hS => ?_)
      refine lv_aload_n hx hb dM_owed_30 rfl (lv_at hl 0 rfl) ?_
      refine va_get (v := .int 0) hx hb hg hin_M hown hK hP 0 rfl rfl 0 (by decide) (hg _ gw_494) (fun _ h => h) rfl dM_owed_31 ?_
      refine lv_if_le (tgt := 41) hx hb dM_owed_34 (by decide) (fun _ => ?_) (fun h => absurd h (by decide))
      refine lv_aload_n hx hb dM_owed_41 rfl (lv_at hl 0 rfl) ?_
      refine va_get (v := .ref (b 16)) hx hb hg hin_M hown hK hP 0 rfl rfl 16 (by decide) (hg _ gw_510) (fun _ h => h) rfl dM_owed_42 ?_
      refine lv_iconst (v := 4) hx hb dM_owed_45 (by decide) ?_
      refine lv_iload_n hx hb dM_owed_46 rfl (lv_at hl 1 rfl) ?_
      refine lv_imul hx hb dM_owed_47 ?_
      refine lv_iload_n hx hb dM_owed_48 rfl (lv_at hl 2 rfl) ?_
      refine lv_iadd hx hb dM_owed_49 ?_
      refine kw_iald (v := σ 14 (((4 * ln) + what).toNatClampNeg)) (j := (((4 * ln) + what).toNatClampNeg)) hx hb hK hP 14 0 rfl rfl (kx_ix4 (kx_none hnl hn3 (by subst e_5 e_8; exact h6)) (kx_win4 (by subst e_5 e_8; exact h9))) rfl rfl dM_owed_50 ?_
      have hk9 : kM_owed σ ln what = (σ 14 (((4 * ln) + what).toNatClampNeg), mkM 0 (σ 0 1) (σ 0 2) (σ 0 3) (σ 0 4) (σ 0 5) (σ 1) (σ 2) (σ 3) (σ 4) (σ 5) (σ 6) (σ 7) (σ 8) (σ 9) (σ 10) (σ 11) (σ 12) (σ 13) (σ 14) (σ 15) (σ 16) (σ 17) (σ 18) (σ 19) (σ 20) (σ 21) (σ 22)) := by subst e_5 e_8; unfold kM_owed; rw [if_pos h6, if_neg h9]
      exact kx_iret hx hb hr hlocks hK hP hD hS (by rw [hk9]) (u := (u_1, u_2, u_3)) (by rw [hk9] <;> rfl) dM_owed_51
  · skip
    refine lv_iconst (v := 1) hx hb dM_owed_9 (by decide) ?_
    refine lv_goto (tgt := 27) hx hb dM_owed_10 (by decide) ?_
    refine kw_put (w' := lm G b 1 (σ 0 1) (σ 0 2) u_1 u_2 u_3 (σ 1) (σ 2) (σ 3) (σ 4) (σ 5) (σ 6) (σ 7) (σ 8) (σ 9) (σ 10) (σ 11) (σ 12) (σ 13) (σ 14) (σ 15) (σ 16) (σ 17) (σ 18) (σ 19) (σ 20) (σ 21) (σ 22)) (v := .int 1) (ty := .int) hx hb hg hin_M tyM tyM_ok nM hown hK hP hD hS 0 rfl rfl 0 (by decide) (hg _ gw_494) (fun _ h => h) rfl (by decide +kernel) rfl rfl (Nat.le_of_ble_eq_true rfl) dM_owed_27 rfl (fun H locs hP hD hS => ?_)
    refine lv_aload_n hx hb dM_owed_30 rfl (lv_at hl 0 rfl) ?_
    refine va_get (v := .int 1) hx hb hg hin_M hown hK hP 0 rfl rfl 0 (by decide) (hg _ gw_494) (fun _ h => h) rfl dM_owed_31 ?_
    refine lv_if_le (tgt := 41) hx hb dM_owed_34 (by decide) (fun h => absurd h (by decide)) (fun _ => ?_)
    refine lv_iconst (v := 0) hx hb dM_owed_37 (by decide) ?_
    refine lv_goto (tgt := 51) hx hb dM_owed_38 (by decide) ?_
    have hk9 : kM_owed σ ln what = (0, mkM 1 (σ 0 1) (σ 0 2) (σ 0 3) (σ 0 4) (σ 0 5) (σ 1) (σ 2) (σ 3) (σ 4) (σ 5) (σ 6) (σ 7) (σ 8) (σ 9) (σ 10) (σ 11) (σ 12) (σ 13) (σ 14) (σ 15) (σ 16) (σ 17) (σ 18) (σ 19) (σ 20) (σ 21) (σ 22)) := by subst e_5; unfold kM_owed; rw [if_neg h6]
    exact kx_iret hx hb hr hlocks hK hP hD hS (by rw [hk9]) (u := (u_1, u_2, u_3)) (by rw [hk9] <;> rfl) dM_owed_51
def kM_part (σ : KS) (ln : Int32) (what : Int32) : Int32 × KS := if (kM_none σ ln) = (0 : Int32) then (if (kM_within what (0 : Int32) (5 : Int32)) = (0 : Int32) then (0, mkM 2 (σ 0 1) (σ 0 2) (σ 0 3) (σ 0 4) (σ 0 5) (σ 1) (σ 2) (σ 3) (σ 4) (σ 5) (σ 6) (σ 7) (σ 8) (σ 9) (σ 10) (σ 11) (σ 12) (σ 13) (σ 14) (σ 15) (σ 16) (σ 17) (σ 18) (σ 19) (σ 20) (σ 21) (σ 22)) else (if (σ 15 ln.toNatClampNeg) = (0 : Int32) then (0, mkM 3 (σ 0 1) (σ 0 2) (σ 0 3) (σ 0 4) (σ 0 5) (σ 1) (σ 2) (σ 3) (σ 4) (σ 5) (σ 6) (σ 7) (σ 8) (σ 9) (σ 10) (σ 11) (σ 12) (σ 13) (σ 14) (σ 15) (σ 16) (σ 17) (σ 18) (σ 19) (σ 20) (σ 21) (σ 22)) else (σ 16 (((6 * ln) + what).toNatClampNeg), mkM 0 (σ 0 1) (σ 0 2) (σ 0 3) (σ 0 4) (σ 0 5) (σ 1) (σ 2) (σ 3) (σ 4) (σ 5) (σ 6) (σ 7) (σ 8) (σ 9) (σ 10) (σ 11) (σ 12) (σ 13) (σ 14) (σ 15) (σ 16) (σ 17) (σ 18) (σ 19) (σ 20) (σ 21) (σ 22)))) else (0, mkM 1 (σ 0 1) (σ 0 2) (σ 0 3) (σ 0 4) (σ 0 5) (σ 1) (σ 2) (σ 3) (σ 4) (σ 5) (σ 6) (σ 7) (σ 8) (σ 9) (σ 10) (σ 11) (σ 12) (σ 13) (σ 14) (σ 15) (σ 16) (σ 17) (σ 18) (σ 19) (σ 20) (σ 21) (σ 22))
abbrev wgM_part : List Cond := .code yM_part cM_part 3 (some .int) :: GW
abbrev rm_M_part : Room := { frames := 2, cells := 0, slots := 0, locals := 43 }
set_option maxRecDepth 100000 in
set_option maxHeartbeats 4000000 in
theorem c_M_part (l : Launch) (D : va_G) (G : Nat → ClassId) (b : Nat → Nat) (σ : KS) (u0 : Int32 × Int32 × Int32) (ln : Int32) (what : Int32) (sz : Nat) (nl : Nat) (hnl : σ 0 2 = nI nl) (hn3 : nl ≤ 3) : Met l yM_part wgM_part rm_M_part (kw_Pc D vwCl (gt G) [.ref (b 0), .int ln, .int what] (mcells G b (scr σ u0)) sz) (kx_i D vwCl (gt G) (mcells G b (scr σ u0)) sz ((kM_part σ ln what).1) (fun u => mcells G b (scr ((kM_part σ ln what).2) u))) 0 0 (va_A (mcells G b (scr σ u0)) sz) := by
  refine Met.ofW (cc := cM_part) (maxL := 3) (ret := (some .int)) (by decide) rfl ?_
  intro p e s m args below meth c s₁ B hml hv
  have hx := B.exec
  have hb := B.bytes
  have hr := B.returns
  have hts := atoms_spec (ws := wgM_part) B.pre
  have hg : ∀ w ∈ GW, w.before args s = true := fun w h => hts w (List.mem_cons_of_mem _ h)
  have hown : s.vm.findClass RM = some m.cls := findClass_of_methodNamed B.named
  have hlocks := B.notSynchronized
  obtain ⟨hv, hsz, hP, hK, hD0⟩ := hv
  subst hsz
  have hD := hD0.self (sz := s.heap.size)
  have hS : va_S (va_A (mcells G b (scr σ u0)) s.heap.size) s.heap s.heap [] := va_S.rf
  refine kw_entry [.ref (b 0), .int ln, .int what] hv (Nat.le_of_ble_eq_true rfl) (fun ls hl => ?_)
  have hl : lv_has ls 3 [(0, .ref (b 0)), (1, .int ln), (2, .int what)] := hl
  refine lv_aload_n hx hb dM_part_0 rfl (lv_at hl 0 rfl) ?_
  refine lv_aload_n hx hb dM_part_1 rfl (lv_at hl 0 rfl) ?_
  refine lv_iload_n hx hb dM_part_2 rfl (lv_at hl 1 rfl) ?_
  refine kx_reti0 (va_runV (C := RM) (As := [.int ln]) (rest := [.ref (b 0)]) ⟨hx, hb, hml, hown, hg⟩ (c_M_none l D G b σ (u0.1, u0.2.1, u0.2.2) ln _) ⟨kw_cB (n := 1) hg gw_655 gw_2 gw_653 (by decide +kernel) (by decide +kernel) ⟨Nat.le_of_ble_eq_true rfl, Nat.le_of_ble_eq_true rfl⟩ rfl rfl, hg _ gw_654, hg _ gw_752⟩ (kw_preV (q0 := 0) hK hP hD rfl rfl) rfl rfl hl.1 rfl (lv_room (Nat.le_of_ble_eq_true rfl)) dM_part_3 ⟨Nat.le_of_ble_eq_true rfl, Nat.le_of_ble_eq_true rfl⟩) hP hD hS (fun _ h => Or.inr h) (fun u_1 u_2 u_3 H locs hP hD hS => ?_)
  refine lv_topi (fun r_4 e_5 => ?_)
  replace e_5 := e_5.symm
  refine lv_if_eq (tgt := 13) hx hb dM_part_6 (by decide) (fun h6 => ?_) (fun h6 => ?_)
  · skip
    refine lv_iload_n hx hb dM_part_13 rfl (lv_at hl 2 rfl) ?_
    refine lv_iconst (v := 0) hx hb dM_part_14 (by decide) ?_
    refine lv_iconst (v := 5) hx hb dM_part_15 (by decide) ?_
    refine kp_reti (va_runS (As := [.int what, .int 0, .int 5]) (rest := [.ref (b 0)]) ⟨hx, hb, hml, hown, hg⟩ (c_M_within l what (0 : Int32) (5 : Int32)) ⟨kw_cB (n := 3) hg gw_604 gw_2 gw_602 (by decide +kernel) (by decide +kernel) ⟨Nat.le_of_ble_eq_true rfl, Nat.le_of_ble_eq_true rfl⟩ rfl rfl, hg _ gw_603⟩ kp_pre rfl rfl hl.1 rfl (lv_room (Nat.le_of_ble_eq_true rfl)) dM_part_16 ⟨Nat.le_of_ble_eq_true rfl, Nat.le_of_ble_eq_true rfl⟩) ?_
    refine lv_topi (fun r_7 e_8 => ?_)
    replace e_8 := e_8.symm
    refine lv_if_ne (tgt := 26) hx hb dM_part_19 (by decide) (fun h9 => ?_) (fun h9 => ?_)
    · skip
      refine lv_aload_n hx hb dM_part_26 rfl (lv_at hl 0 rfl) ?_
      refine va_get (v := .ref (b 17)) hx hb hg hin_M hown hK hP 0 rfl rfl 17 (by decide) (hg _ gw_511) (fun _ h => h) rfl dM_part_27 ?_
      refine lv_iload_n hx hb dM_part_30 rfl (lv_at hl 1 rfl) ?_
      refine kw_zald (v := σ 15 ln.toNatClampNeg) (j := ln.toNatClampNeg) hx hb hK hP 15 1 rfl rfl (kx_none hnl hn3 (by subst e_5 e_8; exact h6)) rfl rfl dM_part_31 ?_
      refine lv_if_eq (tgt := 39) hx hb dM_part_32 (by decide) (fun h10 => ?_) (fun h10 => ?_)
      · skip
        refine lv_iconst (v := 3) hx hb dM_part_39 (by decide) ?_
        refine kw_put (w' := lm G b 3 (σ 0 1) (σ 0 2) u_1 u_2 u_3 (σ 1) (σ 2) (σ 3) (σ 4) (σ 5) (σ 6) (σ 7) (σ 8) (σ 9) (σ 10) (σ 11) (σ 12) (σ 13) (σ 14) (σ 15) (σ 16) (σ 17) (σ 18) (σ 19) (σ 20) (σ 21) (σ 22)) (v := .int 3) (ty := .int) hx hb hg hin_M tyM tyM_ok nM hown hK hP hD hS 0 rfl rfl 0 (by decide) (hg _ gw_494) (fun _ h => h) rfl (by decide +kernel) rfl rfl (Nat.le_of_ble_eq_true rfl) dM_part_40 rfl (fun H locs hP hD hS => ?_)
        refine lv_aload_n hx hb dM_part_43 rfl (lv_at hl 0 rfl) ?_
        refine va_get (v := .int 3) hx hb hg hin_M hown hK hP 0 rfl rfl 0 (by decide) (hg _ gw_494) (fun _ h => h) rfl dM_part_44 ?_
        refine lv_if_le (tgt := 54) hx hb dM_part_47 (by decide) (fun h => absurd h (by decide)) (fun _ => ?_)
        refine lv_iconst (v := 0) hx hb dM_part_50 (by decide) ?_
        refine lv_goto (tgt := 65) hx hb dM_part_51 (by decide) ?_
        have hk9 : kM_part σ ln what = (0, mkM 3 (σ 0 1) (σ 0 2) (σ 0 3) (σ 0 4) (σ 0 5) (σ 1) (σ 2) (σ 3) (σ 4) (σ 5) (σ 6) (σ 7) (σ 8) (σ 9) (σ 10) (σ 11) (σ 12) (σ 13) (σ 14) (σ 15) (σ 16) (σ 17) (σ 18) (σ 19) (σ 20) (σ 21) (σ 22)) := by subst e_5 e_8; unfold kM_part; rw [if_pos h6, if_neg h9, if_pos h10]
        exact kx_iret hx hb hr hlocks hK hP hD hS (by rw [hk9]) (u := (u_1, u_2, u_3)) (by rw [hk9] <;> rfl) dM_part_65
      · skip
        refine lv_iconst (v := 0) hx hb dM_part_35 (by decide) ?_
        refine lv_goto (tgt := 40) hx hb dM_part_36 (by decide) ?_
        refine kw_put (w' := lm G b 0 (σ 0 1) (σ 0 2) u_1 u_2 u_3 (σ 1) (σ 2) (σ 3) (σ 4) (σ 5) (σ 6) (σ 7) (σ 8) (σ 9) (σ 10) (σ 11) (σ 12) (σ 13) (σ 14) (σ 15) (σ 16) (σ 17) (σ 18) (σ 19) (σ 20) (σ 21) (σ 22)) (v := .int 0) (ty := .int) hx hb hg hin_M tyM tyM_ok nM hown hK hP hD hS 0 rfl rfl 0 (by decide) (hg _ gw_494) (fun _ h => h) rfl (by decide +kernel) rfl rfl (Nat.le_of_ble_eq_true rfl) dM_part_40 rfl (fun H locs hP hD hS => ?_)
        refine lv_aload_n hx hb dM_part_43 rfl (lv_at hl 0 rfl) ?_
        refine va_get (v := .int 0) hx hb hg hin_M hown hK hP 0 rfl rfl 0 (by decide) (hg _ gw_494) (fun _ h => h) rfl dM_part_44 ?_
        refine lv_if_le (tgt := 54) hx hb dM_part_47 (by decide) (fun _ => ?_) (fun h => absurd h (by decide))
        refine lv_aload_n hx hb dM_part_54 rfl (lv_at hl 0 rfl) ?_
        refine va_get (v := .ref (b 18)) hx hb hg hin_M hown hK hP 0 rfl rfl 18 (by decide) (hg _ gw_512) (fun _ h => h) rfl dM_part_55 ?_
        refine lv_bipush (v := 6) hx hb dM_part_58 (by decide) ?_
        refine lv_iload_n hx hb dM_part_60 rfl (lv_at hl 1 rfl) ?_
        refine lv_imul hx hb dM_part_61 ?_
        refine lv_iload_n hx hb dM_part_62 rfl (lv_at hl 2 rfl) ?_
        refine lv_iadd hx hb dM_part_63 ?_
        refine kw_iald (v := σ 16 (((6 * ln) + what).toNatClampNeg)) (j := (((6 * ln) + what).toNatClampNeg)) hx hb hK hP 16 0 rfl rfl (kx_ix6 (kx_none hnl hn3 (by subst e_5 e_8; exact h6)) (kx_win6 (by subst e_5 e_8; exact h9))) rfl rfl dM_part_64 ?_
        have hk9 : kM_part σ ln what = (σ 16 (((6 * ln) + what).toNatClampNeg), mkM 0 (σ 0 1) (σ 0 2) (σ 0 3) (σ 0 4) (σ 0 5) (σ 1) (σ 2) (σ 3) (σ 4) (σ 5) (σ 6) (σ 7) (σ 8) (σ 9) (σ 10) (σ 11) (σ 12) (σ 13) (σ 14) (σ 15) (σ 16) (σ 17) (σ 18) (σ 19) (σ 20) (σ 21) (σ 22)) := by subst e_5 e_8; unfold kM_part; rw [if_pos h6, if_neg h9, if_neg h10]
        exact kx_iret hx hb hr hlocks hK hP hD hS (by rw [hk9]) (u := (u_1, u_2, u_3)) (by rw [hk9] <;> rfl) dM_part_65
    · skip
      refine lv_iconst (v := 2) hx hb dM_part_22 (by decide) ?_
      refine lv_goto (tgt := 40) hx hb dM_part_23 (by decide) ?_
      refine kw_put (w' := lm G b 2 (σ 0 1) (σ 0 2) u_1 u_2 u_3 (σ 1) (σ 2) (σ 3) (σ 4) (σ 5) (σ 6) (σ 7) (σ 8) (σ 9) (σ 10) (σ 11) (σ 12) (σ 13) (σ 14) (σ 15) (σ 16) (σ 17) (σ 18) (σ 19) (σ 20) (σ 21) (σ 22)) (v := .int 2) (ty := .int) hx hb hg hin_M tyM tyM_ok nM hown hK hP hD hS 0 rfl rfl 0 (by decide) (hg _ gw_494) (fun _ h => h) rfl (by decide +kernel) rfl rfl (Nat.le_of_ble_eq_true rfl) dM_part_40 rfl (fun H locs hP hD hS => ?_)
      refine lv_aload_n hx hb dM_part_43 rfl (lv_at hl 0 rfl) ?_
      refine va_get (v := .int 2) hx hb hg hin_M hown hK hP 0 rfl rfl 0 (by decide) (hg _ gw_494) (fun _ h => h) rfl dM_part_44 ?_
      refine lv_if_le (tgt := 54) hx hb dM_part_47 (by decide) (fun h => absurd h (by decide)) (fun _ => ?_)
      refine lv_iconst (v := 0) hx hb dM_part_50 (by decide) ?_
      refine lv_goto (tgt := 65) hx hb dM_part_51 (by decide) ?_
      have hk9 : kM_part σ ln what = (0, mkM 2 (σ 0 1) (σ 0 2) (σ 0 3) (σ 0 4) (σ 0 5) (σ 1) (σ 2) (σ 3) (σ 4) (σ 5) (σ 6) (σ 7) (σ 8) (σ 9) (σ 10) (σ 11) (σ 12) (σ 13) (σ 14) (σ 15) (σ 16) (σ 17) (σ 18) (σ 19) (σ 20) (σ 21) (σ 22)) := by subst e_5 e_8; unfold kM_part; rw [if_pos h6, if_pos h9]
      exact kx_iret hx hb hr hlocks hK hP hD hS (by rw [hk9]) (u := (u_1, u_2, u_3)) (by rw [hk9] <;> rfl) dM_part_65
  · skip
    refine lv_iconst (v := 1) hx hb dM_part_9 (by decide) ?_
    refine lv_goto (tgt := 40) hx hb dM_part_10 (by decide) ?_
    refine kw_put (w' := lm G b 1 (σ 0 1) (σ 0 2) u_1 u_2 u_3 (σ 1) (σ 2) (σ 3) (σ 4) (σ 5) (σ 6) (σ 7) (σ 8) (σ 9) (σ 10) (σ 11) (σ 12) (σ 13) (σ 14) (σ 15) (σ 16) (σ 17) (σ 18) (σ 19) (σ 20) (σ 21) (σ 22)) (v := .int 1) (ty := .int) hx hb hg hin_M tyM tyM_ok nM hown hK hP hD hS 0 rfl rfl 0 (by decide) (hg _ gw_494) (fun _ h => h) rfl (by decide +kernel) rfl rfl (Nat.le_of_ble_eq_true rfl) dM_part_40 rfl (fun H locs hP hD hS => ?_)
    refine lv_aload_n hx hb dM_part_43 rfl (lv_at hl 0 rfl) ?_
    refine va_get (v := .int 1) hx hb hg hin_M hown hK hP 0 rfl rfl 0 (by decide) (hg _ gw_494) (fun _ h => h) rfl dM_part_44 ?_
    refine lv_if_le (tgt := 54) hx hb dM_part_47 (by decide) (fun h => absurd h (by decide)) (fun _ => ?_)
    refine lv_iconst (v := 0) hx hb dM_part_50 (by decide) ?_
    refine lv_goto (tgt := 65) hx hb dM_part_51 (by decide) ?_
    have hk9 : kM_part σ ln what = (0, mkM 1 (σ 0 1) (σ 0 2) (σ 0 3) (σ 0 4) (σ 0 5) (σ 1) (σ 2) (σ 3) (σ 4) (σ 5) (σ 6) (σ 7) (σ 8) (σ 9) (σ 10) (σ 11) (σ 12) (σ 13) (σ 14) (σ 15) (σ 16) (σ 17) (σ 18) (σ 19) (σ 20) (σ 21) (σ 22)) := by subst e_5; unfold kM_part; rw [if_neg h6]
    exact kx_iret hx hb hr hlocks hK hP hD hS (by rw [hk9]) (u := (u_1, u_2, u_3)) (by rw [hk9] <;> rfl) dM_part_65
def kM_due (σ : KS) (ln : Int32) (kk : Int32) : Int32 × KS := if (kM_none σ ln) = (0 : Int32) then (if (kM_within kk (1 : Int32) (100 : Int32)) = (0 : Int32) then (0, mkM 2 (σ 0 1) (σ 0 2) (σ 0 3) (σ 0 4) (σ 0 5) (σ 1) (σ 2) (σ 3) (σ 4) (σ 5) (σ 6) (σ 7) (σ 8) (σ 9) (σ 10) (σ 11) (σ 12) (σ 13) (σ 14) (σ 15) (σ 16) (σ 17) (σ 18) (σ 19) (σ 20) (σ 21) (σ 22)) else ((kM_dueDay (σ 1 ln.toNatClampNeg) kk), mkM 0 (σ 0 1) (σ 0 2) (σ 0 3) (σ 0 4) (σ 0 5) (σ 1) (σ 2) (σ 3) (σ 4) (σ 5) (σ 6) (σ 7) (σ 8) (σ 9) (σ 10) (σ 11) (σ 12) (σ 13) (σ 14) (σ 15) (σ 16) (σ 17) (σ 18) (σ 19) (σ 20) (σ 21) (σ 22))) else (0, mkM 1 (σ 0 1) (σ 0 2) (σ 0 3) (σ 0 4) (σ 0 5) (σ 1) (σ 2) (σ 3) (σ 4) (σ 5) (σ 6) (σ 7) (σ 8) (σ 9) (σ 10) (σ 11) (σ 12) (σ 13) (σ 14) (σ 15) (σ 16) (σ 17) (σ 18) (σ 19) (σ 20) (σ 21) (σ 22))
abbrev wgM_due : List Cond := .code yM_due cM_due 3 (some .int) :: GW
abbrev rm_M_due : Room := { frames := 4, cells := 0, slots := 0, locals := 91 }
set_option maxRecDepth 100000 in
set_option maxHeartbeats 4000000 in
theorem c_M_due (l : Launch) (D : va_G) (G : Nat → ClassId) (b : Nat → Nat) (σ : KS) (u0 : Int32 × Int32 × Int32) (ln : Int32) (kk : Int32) (sz : Nat) (nl : Nat) (hnl : σ 0 2 = nI nl) (hn3 : nl ≤ 3) : Met l yM_due wgM_due rm_M_due (kw_Pc D vwCl (gt G) [.ref (b 0), .int ln, .int kk] (mcells G b (scr σ u0)) sz) (kx_i D vwCl (gt G) (mcells G b (scr σ u0)) sz ((kM_due σ ln kk).1) (fun u => mcells G b (scr ((kM_due σ ln kk).2) u))) 0 0 (va_A (mcells G b (scr σ u0)) sz) := by
  refine Met.ofW (cc := cM_due) (maxL := 3) (ret := (some .int)) (by decide) rfl ?_
  intro p e s m args below meth c s₁ B hml hv
  have hx := B.exec
  have hb := B.bytes
  have hr := B.returns
  have hts := atoms_spec (ws := wgM_due) B.pre
  have hg : ∀ w ∈ GW, w.before args s = true := fun w h => hts w (List.mem_cons_of_mem _ h)
  have hown : s.vm.findClass RM = some m.cls := findClass_of_methodNamed B.named
  have hlocks := B.notSynchronized
  obtain ⟨hv, hsz, hP, hK, hD0⟩ := hv
  subst hsz
  have hD := hD0.self (sz := s.heap.size)
  have hS : va_S (va_A (mcells G b (scr σ u0)) s.heap.size) s.heap s.heap [] := va_S.rf
  refine kw_entry [.ref (b 0), .int ln, .int kk] hv (Nat.le_of_ble_eq_true rfl) (fun ls hl => ?_)
  have hl : lv_has ls 3 [(0, .ref (b 0)), (1, .int ln), (2, .int kk)] := hl
  refine lv_aload_n hx hb dM_due_0 rfl (lv_at hl 0 rfl) ?_
  refine lv_aload_n hx hb dM_due_1 rfl (lv_at hl 0 rfl) ?_
  refine lv_iload_n hx hb dM_due_2 rfl (lv_at hl 1 rfl) ?_
  refine kx_reti0 (va_runV (C := RM) (As := [.int ln]) (rest := [.ref (b 0)]) ⟨hx, hb, hml, hown, hg⟩ (c_M_none l D G b σ (u0.1, u0.2.1, u0.2.2) ln _) ⟨kw_cB (n := 1) hg gw_655 gw_2 gw_653 (by decide +kernel) (by decide +kernel) ⟨Nat.le_of_ble_eq_true rfl, Nat.le_of_ble_eq_true rfl⟩ rfl rfl, hg _ gw_654, hg _ gw_752⟩ (kw_preV (q0 := 0) hK hP hD rfl rfl) rfl rfl hl.1 rfl (lv_room (Nat.le_of_ble_eq_true rfl)) dM_due_3 ⟨Nat.le_of_ble_eq_true rfl, Nat.le_of_ble_eq_true rfl⟩) hP hD hS (fun _ h => Or.inr h) (fun u_1 u_2 u_3 H locs hP hD hS => ?_)
  refine lv_topi (fun r_4 e_5 => ?_)
  replace e_5 := e_5.symm
  refine lv_if_eq (tgt := 13) hx hb dM_due_6 (by decide) (fun h6 => ?_) (fun h6 => ?_)
  · skip
    refine lv_iload_n hx hb dM_due_13 rfl (lv_at hl 2 rfl) ?_
    refine lv_iconst (v := 1) hx hb dM_due_14 (by decide) ?_
    refine lv_bipush (v := 100) hx hb dM_due_15 (by decide) ?_
    refine kp_reti (va_runS (As := [.int kk, .int 1, .int 100]) (rest := [.ref (b 0)]) ⟨hx, hb, hml, hown, hg⟩ (c_M_within l kk (1 : Int32) (100 : Int32)) ⟨kw_cB (n := 3) hg gw_604 gw_2 gw_602 (by decide +kernel) (by decide +kernel) ⟨Nat.le_of_ble_eq_true rfl, Nat.le_of_ble_eq_true rfl⟩ rfl rfl, hg _ gw_603⟩ kp_pre rfl rfl hl.1 rfl (lv_room (Nat.le_of_ble_eq_true rfl)) dM_due_17 ⟨Nat.le_of_ble_eq_true rfl, Nat.le_of_ble_eq_true rfl⟩) ?_
    refine lv_topi (fun r_7 e_8 => ?_)
    replace e_8 := e_8.symm
    refine lv_if_eq (tgt := 27) hx hb dM_due_20 (by decide) (fun h9 => ?_) (fun h9 => ?_)
    · skip
      refine lv_iconst (v := 2) hx hb dM_due_27 (by decide) ?_
      refine kw_put (w' := lm G b 2 (σ 0 1) (σ 0 2) u_1 u_2 u_3 (σ 1) (σ 2) (σ 3) (σ 4) (σ 5) (σ 6) (σ 7) (σ 8) (σ 9) (σ 10) (σ 11) (σ 12) (σ 13) (σ 14) (σ 15) (σ 16) (σ 17) (σ 18) (σ 19) (σ 20) (σ 21) (σ 22)) (v := .int 2) (ty := .int) hx hb hg hin_M tyM tyM_ok nM hown hK hP hD hS 0 rfl rfl 0 (by decide) (hg _ gw_494) (fun _ h => h) rfl (by decide +kernel) rfl rfl (Nat.le_of_ble_eq_true rfl) dM_due_28 rfl (fun H locs hP hD hS => ?_)
      refine lv_aload_n hx hb dM_due_31 rfl (lv_at hl 0 rfl) ?_
      refine va_get (v := .int 2) hx hb hg hin_M hown hK hP 0 rfl rfl 0 (by decide) (hg _ gw_494) (fun _ h => h) rfl dM_due_32 ?_
      refine lv_if_le (tgt := 42) hx hb dM_due_35 (by decide) (fun h => absurd h (by decide)) (fun _ => ?_)
      refine lv_iconst (v := 0) hx hb dM_due_38 (by decide) ?_
      refine lv_goto (tgt := 53) hx hb dM_due_39 (by decide) ?_
      have hk9 : kM_due σ ln kk = (0, mkM 2 (σ 0 1) (σ 0 2) (σ 0 3) (σ 0 4) (σ 0 5) (σ 1) (σ 2) (σ 3) (σ 4) (σ 5) (σ 6) (σ 7) (σ 8) (σ 9) (σ 10) (σ 11) (σ 12) (σ 13) (σ 14) (σ 15) (σ 16) (σ 17) (σ 18) (σ 19) (σ 20) (σ 21) (σ 22)) := by subst e_5 e_8; unfold kM_due; rw [if_pos h6, if_pos h9]
      exact kx_iret hx hb hr hlocks hK hP hD hS (by rw [hk9]) (u := (u_1, u_2, u_3)) (by rw [hk9] <;> rfl) dM_due_53
    · skip
      refine lv_iconst (v := 0) hx hb dM_due_23 (by decide) ?_
      refine lv_goto (tgt := 28) hx hb dM_due_24 (by decide) ?_
      refine kw_put (w' := lm G b 0 (σ 0 1) (σ 0 2) u_1 u_2 u_3 (σ 1) (σ 2) (σ 3) (σ 4) (σ 5) (σ 6) (σ 7) (σ 8) (σ 9) (σ 10) (σ 11) (σ 12) (σ 13) (σ 14) (σ 15) (σ 16) (σ 17) (σ 18) (σ 19) (σ 20) (σ 21) (σ 22)) (v := .int 0) (ty := .int) hx hb hg hin_M tyM tyM_ok nM hown hK hP hD hS 0 rfl rfl 0 (by decide) (hg _ gw_494) (fun _ h => h) rfl (by decide +kernel) rfl rfl (Nat.le_of_ble_eq_true rfl) dM_due_28 rfl (fun H locs hP hD hS => ?_)
      refine lv_aload_n hx hb dM_due_31 rfl (lv_at hl 0 rfl) ?_
      refine va_get (v := .int 0) hx hb hg hin_M hown hK hP 0 rfl rfl 0 (by decide) (hg _ gw_494) (fun _ h => h) rfl dM_due_32 ?_
      refine lv_if_le (tgt := 42) hx hb dM_due_35 (by decide) (fun _ => ?_) (fun h => absurd h (by decide))
      refine lv_aload_n hx hb dM_due_42 rfl (lv_at hl 0 rfl) ?_
      refine lv_aload_n hx hb dM_due_43 rfl (lv_at hl 0 rfl) ?_
      refine va_get (v := .ref (b 3)) hx hb hg hin_M hown hK hP 0 rfl rfl 3 (by decide) (hg _ gw_497) (fun _ h => h) rfl dM_due_44 ?_
      refine lv_iload_n hx hb dM_due_47 rfl (lv_at hl 1 rfl) ?_
      refine kw_iald (v := σ 1 ln.toNatClampNeg) (j := ln.toNatClampNeg) hx hb hK hP 1 0 rfl rfl (kx_none hnl hn3 (by subst e_5 e_8; exact h6)) rfl rfl dM_due_48 ?_
      refine lv_iload_n hx hb dM_due_49 rfl (lv_at hl 2 rfl) ?_
      refine kx_reti0 (va_runV (C := RM) (As := [.int (σ 1 ln.toNatClampNeg), .int kk]) (rest := []) ⟨hx, hb, hml, hown, hg⟩ (c_M_dueDay l D G b (mkM 0 (σ 0 1) (σ 0 2) (σ 0 3) (σ 0 4) (σ 0 5) (σ 1) (σ 2) (σ 3) (σ 4) (σ 5) (σ 6) (σ 7) (σ 8) (σ 9) (σ 10) (σ 11) (σ 12) (σ 13) (σ 14) (σ 15) (σ 16) (σ 17) (σ 18) (σ 19) (σ 20) (σ 21) (σ 22)) (u_1, u_2, u_3) (σ 1 ln.toNatClampNeg) kk _) ⟨kw_cB (n := 2) hg gw_638 gw_2 gw_636 (by decide +kernel) (by decide +kernel) ⟨Nat.le_of_ble_eq_true rfl, Nat.le_of_ble_eq_true rfl⟩ rfl rfl, hg _ gw_637, hg _ gw_749⟩ (kw_preV (q0 := 0) hK hP hD rfl rfl) rfl rfl hl.1 rfl (lv_room (Nat.le_of_ble_eq_true rfl)) dM_due_50 ⟨Nat.le_of_ble_eq_true rfl, Nat.le_of_ble_eq_true rfl⟩) hP hD hS (fun _ h => Or.inr h) (fun u_10 u_11 u_12 H locs hP hD hS => ?_)
      refine lv_topi (fun r_13 e_14 => ?_)
      replace e_14 := e_14.symm
      have hk9 : kM_due σ ln kk = (r_13, mkM 0 (σ 0 1) (σ 0 2) (σ 0 3) (σ 0 4) (σ 0 5) (σ 1) (σ 2) (σ 3) (σ 4) (σ 5) (σ 6) (σ 7) (σ 8) (σ 9) (σ 10) (σ 11) (σ 12) (σ 13) (σ 14) (σ 15) (σ 16) (σ 17) (σ 18) (σ 19) (σ 20) (σ 21) (σ 22)) := by subst e_5 e_8 e_14; unfold kM_due; rw [if_pos h6, if_neg h9]
      exact kx_iret hx hb hr hlocks hK hP hD hS (by rw [hk9]) (u := (u_10, u_11, u_12)) (by rw [hk9] <;> rfl) dM_due_53
  · skip
    refine lv_iconst (v := 1) hx hb dM_due_9 (by decide) ?_
    refine lv_goto (tgt := 28) hx hb dM_due_10 (by decide) ?_
    refine kw_put (w' := lm G b 1 (σ 0 1) (σ 0 2) u_1 u_2 u_3 (σ 1) (σ 2) (σ 3) (σ 4) (σ 5) (σ 6) (σ 7) (σ 8) (σ 9) (σ 10) (σ 11) (σ 12) (σ 13) (σ 14) (σ 15) (σ 16) (σ 17) (σ 18) (σ 19) (σ 20) (σ 21) (σ 22)) (v := .int 1) (ty := .int) hx hb hg hin_M tyM tyM_ok nM hown hK hP hD hS 0 rfl rfl 0 (by decide) (hg _ gw_494) (fun _ h => h) rfl (by decide +kernel) rfl rfl (Nat.le_of_ble_eq_true rfl) dM_due_28 rfl (fun H locs hP hD hS => ?_)
    refine lv_aload_n hx hb dM_due_31 rfl (lv_at hl 0 rfl) ?_
    refine va_get (v := .int 1) hx hb hg hin_M hown hK hP 0 rfl rfl 0 (by decide) (hg _ gw_494) (fun _ h => h) rfl dM_due_32 ?_
    refine lv_if_le (tgt := 42) hx hb dM_due_35 (by decide) (fun h => absurd h (by decide)) (fun _ => ?_)
    refine lv_iconst (v := 0) hx hb dM_due_38 (by decide) ?_
    refine lv_goto (tgt := 53) hx hb dM_due_39 (by decide) ?_
    have hk9 : kM_due σ ln kk = (0, mkM 1 (σ 0 1) (σ 0 2) (σ 0 3) (σ 0 4) (σ 0 5) (σ 1) (σ 2) (σ 3) (σ 4) (σ 5) (σ 6) (σ 7) (σ 8) (σ 9) (σ 10) (σ 11) (σ 12) (σ 13) (σ 14) (σ 15) (σ 16) (σ 17) (σ 18) (σ 19) (σ 20) (σ 21) (σ 22)) := by subst e_5; unfold kM_due; rw [if_neg h6]
    exact kx_iret hx hb hr hlocks hK hP hD hS (by rw [hk9]) (u := (u_1, u_2, u_3)) (by rw [hk9] <;> rfl) dM_due_53
def kM_bill (σ : KS) (ln : Int32) (kk : Int32) (what : Int32) : Int32 × KS := if (kM_none σ ln) = (0 : Int32) then (if (kM_within what (0 : Int32) (4 : Int32)) = (0 : Int32) then (0, mkM 2 (σ 0 1) (σ 0 2) (σ 0 3) (σ 0 4) (σ 0 5) (σ 1) (σ 2) (σ 3) (σ 4) (σ 5) (σ 6) (σ 7) (σ 8) (σ 9) (σ 10) (σ 11) (σ 12) (σ 13) (σ 14) (σ 15) (σ 16) (σ 17) (σ 18) (σ 19) (σ 20) (σ 21) (σ 22)) else (if (kM_within kk (0 : Int32) ((σ 17 ln.toNatClampNeg) - 1)) = (0 : Int32) then (0, mkM 3 (σ 0 1) (σ 0 2) (σ 0 3) (σ 0 4) (σ 0 5) (σ 1) (σ 2) (σ 3) (σ 4) (σ 5) (σ 6) (σ 7) (σ 8) (σ 9) (σ 10) (σ 11) (σ 12) (σ 13) (σ 14) (σ 15) (σ 16) (σ 17) (σ 18) (σ 19) (σ 20) (σ 21) (σ 22)) else (if what = (0 : Int32) then (σ 18 (((60 * ln) + kk).toNatClampNeg), mkM 0 (σ 0 1) (σ 0 2) (σ 0 3) (σ 0 4) (σ 0 5) (σ 1) (σ 2) (σ 3) (σ 4) (σ 5) (σ 6) (σ 7) (σ 8) (σ 9) (σ 10) (σ 11) (σ 12) (σ 13) (σ 14) (σ 15) (σ 16) (σ 17) (σ 18) (σ 19) (σ 20) (σ 21) (σ 22)) else (if what = (1 : Int32) then (σ 19 (((60 * ln) + kk).toNatClampNeg), mkM 0 (σ 0 1) (σ 0 2) (σ 0 3) (σ 0 4) (σ 0 5) (σ 1) (σ 2) (σ 3) (σ 4) (σ 5) (σ 6) (σ 7) (σ 8) (σ 9) (σ 10) (σ 11) (σ 12) (σ 13) (σ 14) (σ 15) (σ 16) (σ 17) (σ 18) (σ 19) (σ 20) (σ 21) (σ 22)) else (if what = (2 : Int32) then (σ 20 (((60 * ln) + kk).toNatClampNeg), mkM 0 (σ 0 1) (σ 0 2) (σ 0 3) (σ 0 4) (σ 0 5) (σ 1) (σ 2) (σ 3) (σ 4) (σ 5) (σ 6) (σ 7) (σ 8) (σ 9) (σ 10) (σ 11) (σ 12) (σ 13) (σ 14) (σ 15) (σ 16) (σ 17) (σ 18) (σ 19) (σ 20) (σ 21) (σ 22)) else (if what = (3 : Int32) then (σ 21 (((60 * ln) + kk).toNatClampNeg), mkM 0 (σ 0 1) (σ 0 2) (σ 0 3) (σ 0 4) (σ 0 5) (σ 1) (σ 2) (σ 3) (σ 4) (σ 5) (σ 6) (σ 7) (σ 8) (σ 9) (σ 10) (σ 11) (σ 12) (σ 13) (σ 14) (σ 15) (σ 16) (σ 17) (σ 18) (σ 19) (σ 20) (σ 21) (σ 22)) else (σ 22 (((60 * ln) + kk).toNatClampNeg), mkM 0 (σ 0 1) (σ 0 2) (σ 0 3) (σ 0 4) (σ 0 5) (σ 1) (σ 2) (σ 3) (σ 4) (σ 5) (σ 6) (σ 7) (σ 8) (σ 9) (σ 10) (σ 11) (σ 12) (σ 13) (σ 14) (σ 15) (σ 16) (σ 17) (σ 18) (σ 19) (σ 20) (σ 21) (σ 22)))))))) else (0, mkM 1 (σ 0 1) (σ 0 2) (σ 0 3) (σ 0 4) (σ 0 5) (σ 1) (σ 2) (σ 3) (σ 4) (σ 5) (σ 6) (σ 7) (σ 8) (σ 9) (σ 10) (σ 11) (σ 12) (σ 13) (σ 14) (σ 15) (σ 16) (σ 17) (σ 18) (σ 19) (σ 20) (σ 21) (σ 22))
abbrev wgM_bill : List Cond := .code yM_bill cM_bill 5 (some .int) :: GW
abbrev rm_M_bill : Room := { frames := 2, cells := 0, slots := 0, locals := 43 }
set_option maxRecDepth 100000 in
set_option maxHeartbeats 4000000 in
theorem c_M_bill (l : Launch) (D : va_G) (G : Nat → ClassId) (b : Nat → Nat) (σ : KS) (u0 : Int32 × Int32 × Int32) (ln : Int32) (kk : Int32) (what : Int32) (sz : Nat) (nl : Nat) (hnl : σ 0 2 = nI nl) (hn3 : nl ≤ 3) (hbl : ∀ i : Nat, 0 ≤ (σ 17 i).toInt ∧ (σ 17 i).toInt ≤ 60) : Met l yM_bill wgM_bill rm_M_bill (kw_Pc D vwCl (gt G) [.ref (b 0), .int ln, .int kk, .int what] (mcells G b (scr σ u0)) sz) (kx_i D vwCl (gt G) (mcells G b (scr σ u0)) sz ((kM_bill σ ln kk what).1) (fun u => mcells G b (scr ((kM_bill σ ln kk what).2) u))) 0 0 (va_A (mcells G b (scr σ u0)) sz) := by
  refine Met.ofW (cc := cM_bill) (maxL := 5) (ret := (some .int)) (by decide) rfl ?_
  intro p e s m args below meth c s₁ B hml hv
  have hx := B.exec
  have hb := B.bytes
  have hr := B.returns
  have hts := atoms_spec (ws := wgM_bill) B.pre
  have hg : ∀ w ∈ GW, w.before args s = true := fun w h => hts w (List.mem_cons_of_mem _ h)
  have hown : s.vm.findClass RM = some m.cls := findClass_of_methodNamed B.named
  have hlocks := B.notSynchronized
  obtain ⟨hv, hsz, hP, hK, hD0⟩ := hv
  subst hsz
  have hD := hD0.self (sz := s.heap.size)
  have hS : va_S (va_A (mcells G b (scr σ u0)) s.heap.size) s.heap s.heap [] := va_S.rf
  refine kw_entry [.ref (b 0), .int ln, .int kk, .int what] hv (Nat.le_of_ble_eq_true rfl) (fun ls hl => ?_)
  have hl : lv_has ls 5 [(0, .ref (b 0)), (1, .int ln), (2, .int kk), (3, .int what)] := hl
  refine lv_aload_n hx hb dM_bill_0 rfl (lv_at hl 0 rfl) ?_
  refine lv_aload_n hx hb dM_bill_1 rfl (lv_at hl 0 rfl) ?_
  refine lv_iload_n hx hb dM_bill_2 rfl (lv_at hl 1 rfl) ?_
  refine kx_reti0 (va_runV (C := RM) (As := [.int ln]) (rest := [.ref (b 0)]) ⟨hx, hb, hml, hown, hg⟩ (c_M_none l D G b σ (u0.1, u0.2.1, u0.2.2) ln _) ⟨kw_cB (n := 1) hg gw_655 gw_2 gw_653 (by decide +kernel) (by decide +kernel) ⟨Nat.le_of_ble_eq_true rfl, Nat.le_of_ble_eq_true rfl⟩ rfl rfl, hg _ gw_654, hg _ gw_752⟩ (kw_preV (q0 := 0) hK hP hD rfl rfl) rfl rfl hl.1 rfl (lv_room (Nat.le_of_ble_eq_true rfl)) dM_bill_3 ⟨Nat.le_of_ble_eq_true rfl, Nat.le_of_ble_eq_true rfl⟩) hP hD hS (fun _ h => Or.inr h) (fun u_1 u_2 u_3 H locs hP hD hS => ?_)
  refine lv_topi (fun r_4 e_5 => ?_)
  replace e_5 := e_5.symm
  refine lv_if_eq (tgt := 13) hx hb dM_bill_6 (by decide) (fun h6 => ?_) (fun h6 => ?_)
  · skip
    refine lv_iload_n hx hb dM_bill_13 rfl (lv_at hl 3 rfl) ?_
    refine lv_iconst (v := 0) hx hb dM_bill_14 (by decide) ?_
    refine lv_iconst (v := 4) hx hb dM_bill_15 (by decide) ?_
    refine kp_reti (va_runS (As := [.int what, .int 0, .int 4]) (rest := [.ref (b 0)]) ⟨hx, hb, hml, hown, hg⟩ (c_M_within l what (0 : Int32) (4 : Int32)) ⟨kw_cB (n := 3) hg gw_604 gw_2 gw_602 (by decide +kernel) (by decide +kernel) ⟨Nat.le_of_ble_eq_true rfl, Nat.le_of_ble_eq_true rfl⟩ rfl rfl, hg _ gw_603⟩ kp_pre rfl rfl hl.1 rfl (lv_room (Nat.le_of_ble_eq_true rfl)) dM_bill_16 ⟨Nat.le_of_ble_eq_true rfl, Nat.le_of_ble_eq_true rfl⟩) ?_
    refine lv_topi (fun r_7 e_8 => ?_)
    replace e_8 := e_8.symm
    refine lv_if_ne (tgt := 26) hx hb dM_bill_19 (by decide) (fun h9 => ?_) (fun h9 => ?_)
    · skip
      refine lv_iload_n hx hb dM_bill_26 rfl (lv_at hl 2 rfl) ?_
      refine lv_iconst (v := 0) hx hb dM_bill_27 (by decide) ?_
      refine lv_aload_n hx hb dM_bill_28 rfl (lv_at hl 0 rfl) ?_
      refine va_get (v := .ref (b 19)) hx hb hg hin_M hown hK hP 0 rfl rfl 19 (by decide) (hg _ gw_513) (fun _ h => h) rfl dM_bill_29 ?_
      refine lv_iload_n hx hb dM_bill_32 rfl (lv_at hl 1 rfl) ?_
      refine kw_iald (v := σ 17 ln.toNatClampNeg) (j := ln.toNatClampNeg) hx hb hK hP 17 0 rfl rfl (kx_none hnl hn3 (by subst e_5 e_8; exact h6)) rfl rfl dM_bill_33 ?_
      refine lv_iconst (v := 1) hx hb dM_bill_34 (by decide) ?_
      refine lv_isub hx hb dM_bill_35 ?_
      refine kp_reti (va_runS (As := [.int kk, .int 0, .int ((σ 17 ln.toNatClampNeg) - 1)]) (rest := [.ref (b 0)]) ⟨hx, hb, hml, hown, hg⟩ (c_M_within l kk (0 : Int32) ((σ 17 ln.toNatClampNeg) - 1)) ⟨kw_cB (n := 3) hg gw_604 gw_2 gw_602 (by decide +kernel) (by decide +kernel) ⟨Nat.le_of_ble_eq_true rfl, Nat.le_of_ble_eq_true rfl⟩ rfl rfl, hg _ gw_603⟩ kp_pre rfl rfl hl.1 rfl (lv_room (Nat.le_of_ble_eq_true rfl)) dM_bill_36 ⟨Nat.le_of_ble_eq_true rfl, Nat.le_of_ble_eq_true rfl⟩) ?_
      refine lv_topi (fun r_10 e_11 => ?_)
      replace e_11 := e_11.symm
      refine lv_if_eq (tgt := 46) hx hb dM_bill_39 (by decide) (fun h12 => ?_) (fun h12 => ?_)
      · skip
        refine lv_iconst (v := 3) hx hb dM_bill_46 (by decide) ?_
        refine kw_put (w' := lm G b 3 (σ 0 1) (σ 0 2) u_1 u_2 u_3 (σ 1) (σ 2) (σ 3) (σ 4) (σ 5) (σ 6) (σ 7) (σ 8) (σ 9) (σ 10) (σ 11) (σ 12) (σ 13) (σ 14) (σ 15) (σ 16) (σ 17) (σ 18) (σ 19) (σ 20) (σ 21) (σ 22)) (v := .int 3) (ty := .int) hx hb hg hin_M tyM tyM_ok nM hown hK hP hD hS 0 rfl rfl 0 (by decide) (hg _ gw_494) (fun _ h => h) rfl (by decide +kernel) rfl rfl (Nat.le_of_ble_eq_true rfl) dM_bill_47 rfl (fun H locs hP hD hS => ?_)
        refine lv_aload_n hx hb dM_bill_50 rfl (lv_at hl 0 rfl) ?_
        refine va_get (v := .int 3) hx hb hg hin_M hown hK hP 0 rfl rfl 0 (by decide) (hg _ gw_494) (fun _ h => h) rfl dM_bill_51 ?_
        refine lv_if_le (tgt := 59) hx hb dM_bill_54 (by decide) (fun h => absurd h (by decide)) (fun _ => ?_)
        refine lv_iconst (v := 0) hx hb dM_bill_57 (by decide) ?_
        have hk9 : kM_bill σ ln kk what = (0, mkM 3 (σ 0 1) (σ 0 2) (σ 0 3) (σ 0 4) (σ 0 5) (σ 1) (σ 2) (σ 3) (σ 4) (σ 5) (σ 6) (σ 7) (σ 8) (σ 9) (σ 10) (σ 11) (σ 12) (σ 13) (σ 14) (σ 15) (σ 16) (σ 17) (σ 18) (σ 19) (σ 20) (σ 21) (σ 22)) := by subst e_5 e_8 e_11; unfold kM_bill; rw [if_pos h6, if_neg h9, if_pos h12]
        exact kx_iret hx hb hr hlocks hK hP hD hS (by rw [hk9]) (u := (u_1, u_2, u_3)) (by rw [hk9] <;> rfl) dM_bill_58
      · skip
        refine lv_iconst (v := 0) hx hb dM_bill_42 (by decide) ?_
        refine lv_goto (tgt := 47) hx hb dM_bill_43 (by decide) ?_
        refine kw_put (w' := lm G b 0 (σ 0 1) (σ 0 2) u_1 u_2 u_3 (σ 1) (σ 2) (σ 3) (σ 4) (σ 5) (σ 6) (σ 7) (σ 8) (σ 9) (σ 10) (σ 11) (σ 12) (σ 13) (σ 14) (σ 15) (σ 16) (σ 17) (σ 18) (σ 19) (σ 20) (σ 21) (σ 22)) (v := .int 0) (ty := .int) hx hb hg hin_M tyM tyM_ok nM hown hK hP hD hS 0 rfl rfl 0 (by decide) (hg _ gw_494) (fun _ h => h) rfl (by decide +kernel) rfl rfl (Nat.le_of_ble_eq_true rfl) dM_bill_47 rfl (fun H locs hP hD hS => ?_)
        refine lv_aload_n hx hb dM_bill_50 rfl (lv_at hl 0 rfl) ?_
        refine va_get (v := .int 0) hx hb hg hin_M hown hK hP 0 rfl rfl 0 (by decide) (hg _ gw_494) (fun _ h => h) rfl dM_bill_51 ?_
        refine lv_if_le (tgt := 59) hx hb dM_bill_54 (by decide) (fun _ => ?_) (fun h => absurd h (by decide))
        refine lv_bipush (v := 60) hx hb dM_bill_59 (by decide) ?_
        refine lv_iload_n hx hb dM_bill_61 rfl (lv_at hl 1 rfl) ?_
        refine lv_imul hx hb dM_bill_62 ?_
        refine lv_iload_n hx hb dM_bill_63 rfl (lv_at hl 2 rfl) ?_
        refine lv_iadd hx hb dM_bill_64 ?_
        refine lv_istore hx hb dM_bill_65 hl (by decide) rfl (fun ls hl => ?_)
        have hl : lv_has ls 5 [(4, .int ((60 * ln) + kk)), (0, .ref (b 0)), (1, .int ln), (2, .int kk), (3, .int what)] := hl
        refine lv_iload_n hx hb dM_bill_67 rfl (lv_at hl 4 rfl) ?_
        refine lv_if_ne (tgt := 81) hx hb dM_bill_68 (by decide) (fun h13 => ?_) (fun h13 => ?_)
        · skip
          refine lv_iload_n hx hb dM_bill_81 rfl (lv_at hl 4 rfl) ?_
          refine lv_iconst (v := 1) hx hb dM_bill_82 (by decide) ?_
          refine lv_icmp_ne (tgt := 96) hx hb dM_bill_83 (by decide) (fun h14 => ?_) (fun h14 => ?_)
          · skip
            refine lv_iload_n hx hb dM_bill_96 rfl (lv_at hl 4 rfl) ?_
            refine lv_iconst (v := 2) hx hb dM_bill_97 (by decide) ?_
            refine lv_icmp_ne (tgt := 111) hx hb dM_bill_98 (by decide) (fun h15 => ?_) (fun h15 => ?_)
            · skip
              refine lv_iload_n hx hb dM_bill_111 rfl (lv_at hl 4 rfl) ?_
              refine lv_iconst (v := 3) hx hb dM_bill_112 (by decide) ?_
              refine lv_icmp_ne (tgt := 126) hx hb dM_bill_113 (by decide) (fun h16 => ?_) (fun h16 => ?_)
              · skip
                refine lv_aload_n hx hb dM_bill_126 rfl (lv_at hl 1 rfl) ?_
                refine va_get (v := .ref (b 24)) hx hb hg hin_M hown hK hP 0 rfl rfl 24 (by decide) (hg _ gw_518) (fun _ h => h) rfl dM_bill_127 ?_
                refine lv_iload hx hb dM_bill_130 (lv_at hl 0 rfl) ?_
                refine kw_iald (v := σ 22 (((60 * ln) + kk).toNatClampNeg)) (j := (((60 * ln) + kk).toNatClampNeg)) hx hb hK hP 22 0 rfl rfl (kx_ix60 (kx_none hnl hn3 (by subst e_5 e_8 e_11; exact h6)) (kx_winb (hbl _) (by subst e_5 e_8 e_11; exact h12))) rfl rfl dM_bill_132 ?_
                have hk9 : kM_bill σ ln kk what = (σ 22 (((60 * ln) + kk).toNatClampNeg), mkM 0 (σ 0 1) (σ 0 2) (σ 0 3) (σ 0 4) (σ 0 5) (σ 1) (σ 2) (σ 3) (σ 4) (σ 5) (σ 6) (σ 7) (σ 8) (σ 9) (σ 10) (σ 11) (σ 12) (σ 13) (σ 14) (σ 15) (σ 16) (σ 17) (σ 18) (σ 19) (σ 20) (σ 21) (σ 22)) := by subst e_5 e_8 e_11; unfold kM_bill; rw [if_pos h6, if_neg h9, if_neg h12, if_neg h13, if_neg h14, if_neg h15, if_neg h16]
                exact kx_iret hx hb hr hlocks hK hP hD hS (by rw [hk9]) (u := (u_1, u_2, u_3)) (by rw [hk9] <;> rfl) dM_bill_133
              · skip
                refine lv_aload_n hx hb dM_bill_116 rfl (lv_at hl 1 rfl) ?_
                refine va_get (v := .ref (b 23)) hx hb hg hin_M hown hK hP 0 rfl rfl 23 (by decide) (hg _ gw_517) (fun _ h => h) rfl dM_bill_117 ?_
                refine lv_iload hx hb dM_bill_120 (lv_at hl 0 rfl) ?_
                refine kw_iald (v := σ 21 (((60 * ln) + kk).toNatClampNeg)) (j := (((60 * ln) + kk).toNatClampNeg)) hx hb hK hP 21 0 rfl rfl (kx_ix60 (kx_none hnl hn3 (by subst e_5 e_8 e_11; exact h6)) (kx_winb (hbl _) (by subst e_5 e_8 e_11; exact h12))) rfl rfl dM_bill_122 ?_
                refine lv_goto (tgt := 133) hx hb dM_bill_123 (by decide) ?_
                have hk9 : kM_bill σ ln kk what = (σ 21 (((60 * ln) + kk).toNatClampNeg), mkM 0 (σ 0 1) (σ 0 2) (σ 0 3) (σ 0 4) (σ 0 5) (σ 1) (σ 2) (σ 3) (σ 4) (σ 5) (σ 6) (σ 7) (σ 8) (σ 9) (σ 10) (σ 11) (σ 12) (σ 13) (σ 14) (σ 15) (σ 16) (σ 17) (σ 18) (σ 19) (σ 20) (σ 21) (σ 22)) := by subst e_5 e_8 e_11; unfold kM_bill; rw [if_pos h6, if_neg h9, if_neg h12, if_neg h13, if_neg h14, if_neg h15, if_pos h16]
                exact kx_iret hx hb hr hlocks hK hP hD hS (by rw [hk9]) (u := (u_1, u_2, u_3)) (by rw [hk9] <;> rfl) dM_bill_133
            · skip
              refine lv_aload_n hx hb dM_bill_101 rfl (lv_at hl 1 rfl) ?_
              refine va_get (v := .ref (b 22)) hx hb hg hin_M hown hK hP 0 rfl rfl 22 (by decide) (hg _ gw_516) (fun _ h => h) rfl dM_bill_102 ?_
              refine lv_iload hx hb dM_bill_105 (lv_at hl 0 rfl) ?_
              refine kw_iald (v := σ 20 (((60 * ln) + kk).toNatClampNeg)) (j := (((60 * ln) + kk).toNatClampNeg)) hx hb hK hP 20 0 rfl rfl (kx_ix60 (kx_none hnl hn3 (by subst e_5 e_8 e_11; exact h6)) (kx_winb (hbl _) (by subst e_5 e_8 e_11; exact h12))) rfl rfl dM_bill_107 ?_
              refine lv_goto (tgt := 133) hx hb dM_bill_108 (by decide) ?_
              have hk9 : kM_bill σ ln kk what = (σ 20 (((60 * ln) + kk).toNatClampNeg), mkM 0 (σ 0 1) (σ 0 2) (σ 0 3) (σ 0 4) (σ 0 5) (σ 1) (σ 2) (σ 3) (σ 4) (σ 5) (σ 6) (σ 7) (σ 8) (σ 9) (σ 10) (σ 11) (σ 12) (σ 13) (σ 14) (σ 15) (σ 16) (σ 17) (σ 18) (σ 19) (σ 20) (σ 21) (σ 22)) := by subst e_5 e_8 e_11; unfold kM_bill; rw [if_pos h6, if_neg h9, if_neg h12, if_neg h13, if_neg h14, if_pos h15]
              exact kx_iret hx hb hr hlocks hK hP hD hS (by rw [hk9]) (u := (u_1, u_2, u_3)) (by rw [hk9] <;> rfl) dM_bill_133
          · skip
            refine lv_aload_n hx hb dM_bill_86 rfl (lv_at hl 1 rfl) ?_
            refine va_get (v := .ref (b 21)) hx hb hg hin_M hown hK hP 0 rfl rfl 21 (by decide) (hg _ gw_515) (fun _ h => h) rfl dM_bill_87 ?_
            refine lv_iload hx hb dM_bill_90 (lv_at hl 0 rfl) ?_
            refine kw_iald (v := σ 19 (((60 * ln) + kk).toNatClampNeg)) (j := (((60 * ln) + kk).toNatClampNeg)) hx hb hK hP 19 0 rfl rfl (kx_ix60 (kx_none hnl hn3 (by subst e_5 e_8 e_11; exact h6)) (kx_winb (hbl _) (by subst e_5 e_8 e_11; exact h12))) rfl rfl dM_bill_92 ?_
            refine lv_goto (tgt := 133) hx hb dM_bill_93 (by decide) ?_
            have hk9 : kM_bill σ ln kk what = (σ 19 (((60 * ln) + kk).toNatClampNeg), mkM 0 (σ 0 1) (σ 0 2) (σ 0 3) (σ 0 4) (σ 0 5) (σ 1) (σ 2) (σ 3) (σ 4) (σ 5) (σ 6) (σ 7) (σ 8) (σ 9) (σ 10) (σ 11) (σ 12) (σ 13) (σ 14) (σ 15) (σ 16) (σ 17) (σ 18) (σ 19) (σ 20) (σ 21) (σ 22)) := by subst e_5 e_8 e_11; unfold kM_bill; rw [if_pos h6, if_neg h9, if_neg h12, if_neg h13, if_pos h14]
            exact kx_iret hx hb hr hlocks hK hP hD hS (by rw [hk9]) (u := (u_1, u_2, u_3)) (by rw [hk9] <;> rfl) dM_bill_133
        · skip
          refine lv_aload_n hx hb dM_bill_71 rfl (lv_at hl 1 rfl) ?_
          refine va_get (v := .ref (b 20)) hx hb hg hin_M hown hK hP 0 rfl rfl 20 (by decide) (hg _ gw_514) (fun _ h => h) rfl dM_bill_72 ?_
          refine lv_iload hx hb dM_bill_75 (lv_at hl 0 rfl) ?_
          refine kw_iald (v := σ 18 (((60 * ln) + kk).toNatClampNeg)) (j := (((60 * ln) + kk).toNatClampNeg)) hx hb hK hP 18 0 rfl rfl (kx_ix60 (kx_none hnl hn3 (by subst e_5 e_8 e_11; exact h6)) (kx_winb (hbl _) (by subst e_5 e_8 e_11; exact h12))) rfl rfl dM_bill_77 ?_
          refine lv_goto (tgt := 133) hx hb dM_bill_78 (by decide) ?_
          have hk9 : kM_bill σ ln kk what = (σ 18 (((60 * ln) + kk).toNatClampNeg), mkM 0 (σ 0 1) (σ 0 2) (σ 0 3) (σ 0 4) (σ 0 5) (σ 1) (σ 2) (σ 3) (σ 4) (σ 5) (σ 6) (σ 7) (σ 8) (σ 9) (σ 10) (σ 11) (σ 12) (σ 13) (σ 14) (σ 15) (σ 16) (σ 17) (σ 18) (σ 19) (σ 20) (σ 21) (σ 22)) := by subst e_5 e_8 e_11; unfold kM_bill; rw [if_pos h6, if_neg h9, if_neg h12, if_pos h13]
          exact kx_iret hx hb hr hlocks hK hP hD hS (by rw [hk9]) (u := (u_1, u_2, u_3)) (by rw [hk9] <;> rfl) dM_bill_133
    · skip
      refine lv_iconst (v := 2) hx hb dM_bill_22 (by decide) ?_
      refine lv_goto (tgt := 47) hx hb dM_bill_23 (by decide) ?_
      refine kw_put (w' := lm G b 2 (σ 0 1) (σ 0 2) u_1 u_2 u_3 (σ 1) (σ 2) (σ 3) (σ 4) (σ 5) (σ 6) (σ 7) (σ 8) (σ 9) (σ 10) (σ 11) (σ 12) (σ 13) (σ 14) (σ 15) (σ 16) (σ 17) (σ 18) (σ 19) (σ 20) (σ 21) (σ 22)) (v := .int 2) (ty := .int) hx hb hg hin_M tyM tyM_ok nM hown hK hP hD hS 0 rfl rfl 0 (by decide) (hg _ gw_494) (fun _ h => h) rfl (by decide +kernel) rfl rfl (Nat.le_of_ble_eq_true rfl) dM_bill_47 rfl (fun H locs hP hD hS => ?_)
      refine lv_aload_n hx hb dM_bill_50 rfl (lv_at hl 0 rfl) ?_
      refine va_get (v := .int 2) hx hb hg hin_M hown hK hP 0 rfl rfl 0 (by decide) (hg _ gw_494) (fun _ h => h) rfl dM_bill_51 ?_
      refine lv_if_le (tgt := 59) hx hb dM_bill_54 (by decide) (fun h => absurd h (by decide)) (fun _ => ?_)
      refine lv_iconst (v := 0) hx hb dM_bill_57 (by decide) ?_
      have hk9 : kM_bill σ ln kk what = (0, mkM 2 (σ 0 1) (σ 0 2) (σ 0 3) (σ 0 4) (σ 0 5) (σ 1) (σ 2) (σ 3) (σ 4) (σ 5) (σ 6) (σ 7) (σ 8) (σ 9) (σ 10) (σ 11) (σ 12) (σ 13) (σ 14) (σ 15) (σ 16) (σ 17) (σ 18) (σ 19) (σ 20) (σ 21) (σ 22)) := by subst e_5 e_8; unfold kM_bill; rw [if_pos h6, if_pos h9]
      exact kx_iret hx hb hr hlocks hK hP hD hS (by rw [hk9]) (u := (u_1, u_2, u_3)) (by rw [hk9] <;> rfl) dM_bill_58
  · skip
    refine lv_iconst (v := 1) hx hb dM_bill_9 (by decide) ?_
    refine lv_goto (tgt := 47) hx hb dM_bill_10 (by decide) ?_
    refine kw_put (w' := lm G b 1 (σ 0 1) (σ 0 2) u_1 u_2 u_3 (σ 1) (σ 2) (σ 3) (σ 4) (σ 5) (σ 6) (σ 7) (σ 8) (σ 9) (σ 10) (σ 11) (σ 12) (σ 13) (σ 14) (σ 15) (σ 16) (σ 17) (σ 18) (σ 19) (σ 20) (σ 21) (σ 22)) (v := .int 1) (ty := .int) hx hb hg hin_M tyM tyM_ok nM hown hK hP hD hS 0 rfl rfl 0 (by decide) (hg _ gw_494) (fun _ h => h) rfl (by decide +kernel) rfl rfl (Nat.le_of_ble_eq_true rfl) dM_bill_47 rfl (fun H locs hP hD hS => ?_)
    refine lv_aload_n hx hb dM_bill_50 rfl (lv_at hl 0 rfl) ?_
    refine va_get (v := .int 1) hx hb hg hin_M hown hK hP 0 rfl rfl 0 (by decide) (hg _ gw_494) (fun _ h => h) rfl dM_bill_51 ?_
    refine lv_if_le (tgt := 59) hx hb dM_bill_54 (by decide) (fun h => absurd h (by decide)) (fun _ => ?_)
    refine lv_iconst (v := 0) hx hb dM_bill_57 (by decide) ?_
    have hk9 : kM_bill σ ln kk what = (0, mkM 1 (σ 0 1) (σ 0 2) (σ 0 3) (σ 0 4) (σ 0 5) (σ 1) (σ 2) (σ 3) (σ 4) (σ 5) (σ 6) (σ 7) (σ 8) (σ 9) (σ 10) (σ 11) (σ 12) (σ 13) (σ 14) (σ 15) (σ 16) (σ 17) (σ 18) (σ 19) (σ 20) (σ 21) (σ 22)) := by subst e_5; unfold kM_bill; rw [if_neg h6]
    exact kx_iret hx hb hr hlocks hK hP hD hS (by rw [hk9]) (u := (u_1, u_2, u_3)) (by rw [hk9] <;> rfl) dM_bill_58
def kM_accrued (σ : KS) (ln : Int32) : Int32 × KS := if (kM_none ((kM_at σ ln).2) ln) = (0 : Int32) then ((((kM_at σ ln).2) 9 ((kM_at σ ln).1).toNatClampNeg) + (kM_own ((kM_at σ ln).2) ((kM_at σ ln).1) (((kM_at σ ln).2) 7 ((kM_at σ ln).1).toNatClampNeg) (((kM_at σ ln).2) 10 ((kM_at σ ln).1).toNatClampNeg) (((kM_at σ ln).2) 0 1)), ((kM_at σ ln).2)) else (0, ((kM_at σ ln).2))
abbrev wgM_accrued : List Cond := .code yM_accrued cM_accrued 3 (some .int) :: GW
abbrev rm_M_accrued : Room := { frames := 6, cells := 0, slots := 0, locals := 143 }
set_option maxRecDepth 100000 in
set_option maxHeartbeats 4000000 in
theorem c_M_accrued (l : Launch) (D : va_G) (G : Nat → ClassId) (b : Nat → Nat) (σ : KS) (u0 : Int32 × Int32 × Int32) (ln : Int32) (sz : Nat) (nl : Nat) (hnl : σ 0 2 = nI nl) (hn3 : nl ≤ 3) (hto : σ 0 1 ≤ 1073741824) : Met l yM_accrued wgM_accrued rm_M_accrued (kw_Pc D vwCl (gt G) [.ref (b 0), .int ln] (mcells G b (scr σ u0)) sz) (kx_i D vwCl (gt G) (mcells G b (scr σ u0)) sz ((kM_accrued σ ln).1) (fun u => mcells G b (scr ((kM_accrued σ ln).2) u))) 0 0 (va_A (mcells G b (scr σ u0)) sz) := by
  refine Met.ofW (cc := cM_accrued) (maxL := 3) (ret := (some .int)) (by decide) rfl ?_
  intro p e s m args below meth c s₁ B hml hv
  have hx := B.exec
  have hb := B.bytes
  have hr := B.returns
  have hts := atoms_spec (ws := wgM_accrued) B.pre
  have hg : ∀ w ∈ GW, w.before args s = true := fun w h => hts w (List.mem_cons_of_mem _ h)
  have hown : s.vm.findClass RM = some m.cls := findClass_of_methodNamed B.named
  have hlocks := B.notSynchronized
  obtain ⟨hv, hsz, hP, hK, hD0⟩ := hv
  subst hsz
  have hD := hD0.self (sz := s.heap.size)
  have hS : va_S (va_A (mcells G b (scr σ u0)) s.heap.size) s.heap s.heap [] := va_S.rf
  refine kw_entry [.ref (b 0), .int ln] hv (Nat.le_of_ble_eq_true rfl) (fun ls hl => ?_)
  have hl : lv_has ls 3 [(0, .ref (b 0)), (1, .int ln)] := hl
  refine lv_aload_n hx hb dM_accrued_0 rfl (lv_at hl 0 rfl) ?_
  refine lv_iload_n hx hb dM_accrued_1 rfl (lv_at hl 1 rfl) ?_
  refine kx_reti0 (va_runV (C := RM) (As := [.int ln]) (rest := []) ⟨hx, hb, hml, hown, hg⟩ (c_M_at l D G b σ (u0.1, u0.2.1, u0.2.2) ln _) ⟨kw_cB (n := 1) hg gw_699 gw_2 gw_697 (by decide +kernel) (by decide +kernel) ⟨Nat.le_of_ble_eq_true rfl, Nat.le_of_ble_eq_true rfl⟩ rfl rfl, hg _ gw_698, hg _ gw_758⟩ (kw_preV (q0 := 0) hK hP hD rfl rfl) rfl rfl hl.1 rfl (lv_room (Nat.le_of_ble_eq_true rfl)) dM_accrued_2 ⟨Nat.le_of_ble_eq_true rfl, Nat.le_of_ble_eq_true rfl⟩) hP hD hS (fun _ h => Or.inr h) (fun u_1 u_2 u_3 H locs hP hD hS => ?_)
  refine lv_topi (fun r_4 e_5 => ?_)
  replace e_5 := e_5.symm
  obtain ⟨S_6, e_7⟩ : ∃ z : KS, (kM_at σ ln).2 = z := ⟨_, rfl⟩
  rw [e_7] at hP hD
  refine lv_istore_n hx hb dM_accrued_5 rfl hl (by decide) rfl (fun ls hl => ?_)
  have hl : lv_has ls 3 [(2, .int r_4), (0, .ref (b 0)), (1, .int ln)] := hl
  refine lv_aload_n hx hb dM_accrued_6 rfl (lv_at hl 1 rfl) ?_
  refine lv_iload_n hx hb dM_accrued_7 rfl (lv_at hl 2 rfl) ?_
  refine kx_reti0 (va_runV (C := RM) (As := [.int ln]) (rest := []) ⟨hx, hb, hml, hown, hg⟩ (c_M_none l D G b S_6 (u_1, u_2, u_3) ln _) ⟨kw_cB (n := 1) hg gw_655 gw_2 gw_653 (by decide +kernel) (by decide +kernel) ⟨Nat.le_of_ble_eq_true rfl, Nat.le_of_ble_eq_true rfl⟩ rfl rfl, hg _ gw_654, hg _ gw_752⟩ (kw_preV (q0 := 0) hK hP hD rfl rfl) rfl rfl hl.1 rfl (lv_room (Nat.le_of_ble_eq_true rfl)) dM_accrued_8 ⟨Nat.le_of_ble_eq_true rfl, Nat.le_of_ble_eq_true rfl⟩) hP hD hS (fun _ h => Or.inr h) (fun u_8 u_9 u_10 H locs hP hD hS => ?_)
  refine lv_topi (fun r_11 e_12 => ?_)
  replace e_12 := e_12.symm
  refine lv_if_eq (tgt := 18) hx hb dM_accrued_11 (by decide) (fun h13 => ?_) (fun h13 => ?_)
  · skip
    refine lv_aload_n hx hb dM_accrued_18 rfl (lv_at hl 1 rfl) ?_
    refine va_get (v := .ref (b 11)) hx hb hg hin_M hown hK hP 0 rfl rfl 11 (by decide) (hg _ gw_505) (fun _ h => h) rfl dM_accrued_19 ?_
    refine lv_iload_n hx hb dM_accrued_22 rfl (lv_at hl 0 rfl) ?_
    refine kw_iald (v := S_6 9 r_4.toNatClampNeg) (j := r_4.toNatClampNeg) hx hb hK hP 9 0 rfl rfl (by subst e_5 e_7 e_12; exact kx_at hnl hn3) rfl rfl dM_accrued_23 ?_
    refine lv_aload_n hx hb dM_accrued_24 rfl (lv_at hl 1 rfl) ?_
    refine lv_iload_n hx hb dM_accrued_25 rfl (lv_at hl 0 rfl) ?_
    refine lv_aload_n hx hb dM_accrued_26 rfl (lv_at hl 1 rfl) ?_
    refine va_get (v := .ref (b 9)) hx hb hg hin_M hown hK hP 0 rfl rfl 9 (by decide) (hg _ gw_503) (fun _ h => h) rfl dM_accrued_27 ?_
    refine lv_iload_n hx hb dM_accrued_30 rfl (lv_at hl 0 rfl) ?_
    refine kw_iald (v := S_6 7 r_4.toNatClampNeg) (j := r_4.toNatClampNeg) hx hb hK hP 7 0 rfl rfl (by subst e_5 e_7 e_12; exact kx_at hnl hn3) rfl rfl dM_accrued_31 ?_
    refine lv_aload_n hx hb dM_accrued_32 rfl (lv_at hl 1 rfl) ?_
    refine va_get (v := .ref (b 12)) hx hb hg hin_M hown hK hP 0 rfl rfl 12 (by decide) (hg _ gw_506) (fun _ h => h) rfl dM_accrued_33 ?_
    refine lv_iload_n hx hb dM_accrued_36 rfl (lv_at hl 0 rfl) ?_
    refine kw_iald (v := S_6 10 r_4.toNatClampNeg) (j := r_4.toNatClampNeg) hx hb hK hP 10 0 rfl rfl (by subst e_5 e_7 e_12; exact kx_at hnl hn3) rfl rfl dM_accrued_37 ?_
    refine lv_aload_n hx hb dM_accrued_38 rfl (lv_at hl 1 rfl) ?_
    refine va_get (v := .int (S_6 0 1)) hx hb hg hin_M hown hK hP 0 rfl rfl 1 (by decide) (hg _ gw_495) (fun _ h => h) rfl dM_accrued_39 ?_
    refine kx_reti0 (va_runV (C := RM) (As := [.int r_4, .int (S_6 7 r_4.toNatClampNeg), .int (S_6 10 r_4.toNatClampNeg), .int (S_6 0 1)]) (rest := [.int (S_6 9 r_4.toNatClampNeg)]) ⟨hx, hb, hml, hown, hg⟩ (c_M_own l D G b S_6 (u_8, u_9, u_10) r_4 (S_6 7 r_4.toNatClampNeg) (S_6 10 r_4.toNatClampNeg) (S_6 0 1) _ (by subst e_5 e_7 e_12; exact kx_at hnl hn3) (by subst e_5 e_7 e_12; rw [kx_at_today]; exact hto)) ⟨kw_cB (n := 4) hg gw_648 gw_2 gw_646 (by decide +kernel) (by decide +kernel) ⟨Nat.le_of_ble_eq_true rfl, Nat.le_of_ble_eq_true rfl⟩ rfl rfl, hg _ gw_647, hg _ gw_751⟩ (kw_preV (q0 := 0) hK hP hD rfl rfl) rfl rfl hl.1 rfl (lv_room (Nat.le_of_ble_eq_true rfl)) dM_accrued_42 ⟨Nat.le_of_ble_eq_true rfl, Nat.le_of_ble_eq_true rfl⟩) hP hD hS (fun _ h => Or.inr h) (fun u_14 u_15 u_16 H locs hP hD hS => ?_)
    refine lv_topi (fun r_17 e_18 => ?_)
    replace e_18 := e_18.symm
    refine lv_iadd hx hb dM_accrued_45 ?_
    have hk9 : kM_accrued σ ln = ((S_6 9 r_4.toNatClampNeg) + r_17, S_6) := by subst e_5 e_7 e_12 e_18; unfold kM_accrued; rw [if_pos h13]
    exact kx_iret hx hb hr hlocks hK hP hD hS (by rw [hk9]) (u := (u_14, u_15, u_16)) (by rw [hk9] <;> rfl) dM_accrued_46
  · skip
    refine lv_iconst (v := 0) hx hb dM_accrued_14 (by decide) ?_
    refine lv_goto (tgt := 46) hx hb dM_accrued_15 (by decide) ?_
    have hk9 : kM_accrued σ ln = (0, S_6) := by subst e_5 e_7 e_12; unfold kM_accrued; rw [if_neg h13]
    exact kx_iret hx hb hr hlocks hK hP hD hS (by rw [hk9]) (u := (u_8, u_9, u_10)) (by rw [hk9] <;> rfl) dM_accrued_46
def kM_interest (σ : KS) (amount : Int32) (per : Int32) (x : Int32) (y : Int32) (how : Int32) (rnd : Int32) : Int32 × KS := if (kM_within amount (0 : Int32) (100000000 : Int32)) = (0 : Int32) then (0, mkM 1 (σ 0 1) (σ 0 2) (σ 0 3) (σ 0 4) (σ 0 5) (σ 1) (σ 2) (σ 3) (σ 4) (σ 5) (σ 6) (σ 7) (σ 8) (σ 9) (σ 10) (σ 11) (σ 12) (σ 13) (σ 14) (σ 15) (σ 16) (σ 17) (σ 18) (σ 19) (σ 20) (σ 21) (σ 22)) else (if (kM_within per (0 : Int32) (30000 : Int32)) = (0 : Int32) then (0, mkM 1 (σ 0 1) (σ 0 2) (σ 0 3) (σ 0 4) (σ 0 5) (σ 1) (σ 2) (σ 3) (σ 4) (σ 5) (σ 6) (σ 7) (σ 8) (σ 9) (σ 10) (σ 11) (σ 12) (σ 13) (σ 14) (σ 15) (σ 16) (σ 17) (σ 18) (σ 19) (σ 20) (σ 21) (σ 22)) else (if (kM_within x (0 : Int32) (4000 : Int32)) = (0 : Int32) then (0, mkM 1 (σ 0 1) (σ 0 2) (σ 0 3) (σ 0 4) (σ 0 5) (σ 1) (σ 2) (σ 3) (σ 4) (σ 5) (σ 6) (σ 7) (σ 8) (σ 9) (σ 10) (σ 11) (σ 12) (σ 13) (σ 14) (σ 15) (σ 16) (σ 17) (σ 18) (σ 19) (σ 20) (σ 21) (σ 22)) else (if (kM_within y x (4000 : Int32)) = (0 : Int32) then (0, mkM 1 (σ 0 1) (σ 0 2) (σ 0 3) (σ 0 4) (σ 0 5) (σ 1) (σ 2) (σ 3) (σ 4) (σ 5) (σ 6) (σ 7) (σ 8) (σ 9) (σ 10) (σ 11) (σ 12) (σ 13) (σ 14) (σ 15) (σ 16) (σ 17) (σ 18) (σ 19) (σ 20) (σ 21) (σ 22)) else (if (kM_within how (0 : Int32) (3 : Int32)) = (0 : Int32) then (0, mkM 1 (σ 0 1) (σ 0 2) (σ 0 3) (σ 0 4) (σ 0 5) (σ 1) (σ 2) (σ 3) (σ 4) (σ 5) (σ 6) (σ 7) (σ 8) (σ 9) (σ 10) (σ 11) (σ 12) (σ 13) (σ 14) (σ 15) (σ 16) (σ 17) (σ 18) (σ 19) (σ 20) (σ 21) (σ 22)) else (if (kM_within rnd (0 : Int32) (3 : Int32)) = (0 : Int32) then (0, mkM 1 (σ 0 1) (σ 0 2) (σ 0 3) (σ 0 4) (σ 0 5) (σ 1) (σ 2) (σ 3) (σ 4) (σ 5) (σ 6) (σ 7) (σ 8) (σ 9) (σ 10) (σ 11) (σ 12) (σ 13) (σ 14) (σ 15) (σ 16) (σ 17) (σ 18) (σ 19) (σ 20) (σ 21) (σ 22)) else ((kM_interestOn amount per x y how rnd), mkM 0 (σ 0 1) (σ 0 2) (σ 0 3) (σ 0 4) (σ 0 5) (σ 1) (σ 2) (σ 3) (σ 4) (σ 5) (σ 6) (σ 7) (σ 8) (σ 9) (σ 10) (σ 11) (σ 12) (σ 13) (σ 14) (σ 15) (σ 16) (σ 17) (σ 18) (σ 19) (σ 20) (σ 21) (σ 22)))))))
abbrev wgM_interest : List Cond := .code yM_interest cM_interest 8 (some .int) :: GW
abbrev rm_M_interest : Room := { frames := 5, cells := 0, slots := 0, locals := 119 }
set_option maxRecDepth 100000 in
set_option maxHeartbeats 4000000 in
theorem c_M_interest (l : Launch) (D : va_G) (G : Nat → ClassId) (b : Nat → Nat) (σ : KS) (u0 : Int32 × Int32 × Int32) (amount : Int32) (per : Int32) (x : Int32) (y : Int32) (how : Int32) (rnd : Int32) (sz : Nat)  : Met l yM_interest wgM_interest rm_M_interest (kw_Pc D vwCl (gt G) [.ref (b 0), .int amount, .int per, .int x, .int y, .int how, .int rnd] (mcells G b (scr σ u0)) sz) (kx_i D vwCl (gt G) (mcells G b (scr σ u0)) sz ((kM_interest σ amount per x y how rnd).1) (fun u => mcells G b (scr ((kM_interest σ amount per x y how rnd).2) u))) 0 0 (va_A (mcells G b (scr σ u0)) sz) := by
  refine Met.ofW (cc := cM_interest) (maxL := 8) (ret := (some .int)) (by decide) rfl ?_
  intro p e s m args below meth c s₁ B hml hv
  have hx := B.exec
  have hb := B.bytes
  have hr := B.returns
  have hts := atoms_spec (ws := wgM_interest) B.pre
  have hg : ∀ w ∈ GW, w.before args s = true := fun w h => hts w (List.mem_cons_of_mem _ h)
  have hown : s.vm.findClass RM = some m.cls := findClass_of_methodNamed B.named
  have hlocks := B.notSynchronized
  obtain ⟨hv, hsz, hP, hK, hD0⟩ := hv
  subst hsz
  have hD := hD0.self (sz := s.heap.size)
  have hS : va_S (va_A (mcells G b (scr σ u0)) s.heap.size) s.heap s.heap [] := va_S.rf
  refine kw_entry [.ref (b 0), .int amount, .int per, .int x, .int y, .int how, .int rnd] hv (Nat.le_of_ble_eq_true rfl) (fun ls hl => ?_)
  have hl : lv_has ls 8 [(0, .ref (b 0)), (1, .int amount), (2, .int per), (3, .int x), (4, .int y), (5, .int how), (6, .int rnd)] := hl
  refine lv_iload_n hx hb dM_interest_0 rfl (lv_at hl 1 rfl) ?_
  refine lv_iconst (v := 0) hx hb dM_interest_1 (by decide) ?_
  refine lv_ldc (v := 100000000) hx hb hown (hg _ gw_601) dM_interest_2 ?_
  refine kp_reti (va_runS (As := [.int amount, .int 0, .int 100000000]) (rest := []) ⟨hx, hb, hml, hown, hg⟩ (c_M_within l amount (0 : Int32) (100000000 : Int32)) ⟨kw_cB (n := 3) hg gw_604 gw_2 gw_602 (by decide +kernel) (by decide +kernel) ⟨Nat.le_of_ble_eq_true rfl, Nat.le_of_ble_eq_true rfl⟩ rfl rfl, hg _ gw_603⟩ kp_pre rfl rfl hl.1 rfl (lv_room (Nat.le_of_ble_eq_true rfl)) dM_interest_4 ⟨Nat.le_of_ble_eq_true rfl, Nat.le_of_ble_eq_true rfl⟩) ?_
  refine lv_topi (fun r_1 e_2 => ?_)
  replace e_2 := e_2.symm
  refine lv_if_eq (tgt := 68) hx hb dM_interest_7 (by decide) (fun h3 => ?_) (fun h3 => ?_)
  · skip
    refine lv_iconst (v := 0) hx hb dM_interest_68 (by decide) ?_
    refine lv_istore hx hb dM_interest_69 hl (by decide) rfl (fun ls hl => ?_)
    have hl : lv_has ls 8 [(7, .int 0), (0, .ref (b 0)), (1, .int amount), (2, .int per), (3, .int x), (4, .int y), (5, .int how), (6, .int rnd)] := hl
    refine lv_aload_n hx hb dM_interest_71 rfl (lv_at hl 1 rfl) ?_
    refine lv_iload hx hb dM_interest_72 (lv_at hl 0 rfl) ?_
    refine lv_if_eq (tgt := 81) hx hb dM_interest_74 (by decide) (fun _ => ?_) (fun h => absurd h (by decide))
    refine lv_iconst (v := 1) hx hb dM_interest_81 (by decide) ?_
    refine kw_put (w' := lm G b 1 (σ 0 1) (σ 0 2) u0.1 u0.2.1 u0.2.2 (σ 1) (σ 2) (σ 3) (σ 4) (σ 5) (σ 6) (σ 7) (σ 8) (σ 9) (σ 10) (σ 11) (σ 12) (σ 13) (σ 14) (σ 15) (σ 16) (σ 17) (σ 18) (σ 19) (σ 20) (σ 21) (σ 22)) (v := .int 1) (ty := .int) hx hb hg hin_M tyM tyM_ok nM hown hK hP hD hS 0 rfl rfl 0 (by decide) (hg _ gw_494) (fun _ h => h) rfl (by decide +kernel) rfl rfl (Nat.le_of_ble_eq_true rfl) dM_interest_82 rfl (fun H locs hP hD hS => ?_)
    refine lv_iload hx hb dM_interest_85 (lv_at hl 0 rfl) ?_
    refine lv_if_eq (tgt := 106) hx hb dM_interest_87 (by decide) (fun _ => ?_) (fun h => absurd h (by decide))
    refine lv_iconst (v := 0) hx hb dM_interest_106 (by decide) ?_
    have hk9 : kM_interest σ amount per x y how rnd = (0, mkM 1 (σ 0 1) (σ 0 2) (σ 0 3) (σ 0 4) (σ 0 5) (σ 1) (σ 2) (σ 3) (σ 4) (σ 5) (σ 6) (σ 7) (σ 8) (σ 9) (σ 10) (σ 11) (σ 12) (σ 13) (σ 14) (σ 15) (σ 16) (σ 17) (σ 18) (σ 19) (σ 20) (σ 21) (σ 22)) := by subst e_2; unfold kM_interest; rw [if_pos h3]
    exact kx_iret hx hb hr hlocks hK hP hD hS (by rw [hk9]) (u := (u0.1, u0.2.1, u0.2.2)) (by rw [hk9] <;> rfl) dM_interest_107
  · skip
    refine lv_iload_n hx hb dM_interest_10 rfl (lv_at hl 2 rfl) ?_
    refine lv_iconst (v := 0) hx hb dM_interest_11 (by decide) ?_
    refine lv_sipush (v := 30000) hx hb dM_interest_12 (by decide) ?_
    refine kp_reti (va_runS (As := [.int per, .int 0, .int 30000]) (rest := []) ⟨hx, hb, hml, hown, hg⟩ (c_M_within l per (0 : Int32) (30000 : Int32)) ⟨kw_cB (n := 3) hg gw_604 gw_2 gw_602 (by decide +kernel) (by decide +kernel) ⟨Nat.le_of_ble_eq_true rfl, Nat.le_of_ble_eq_true rfl⟩ rfl rfl, hg _ gw_603⟩ kp_pre rfl rfl hl.1 rfl (lv_room (Nat.le_of_ble_eq_true rfl)) dM_interest_15 ⟨Nat.le_of_ble_eq_true rfl, Nat.le_of_ble_eq_true rfl⟩) ?_
    refine lv_topi (fun r_4 e_5 => ?_)
    replace e_5 := e_5.symm
    refine lv_if_eq (tgt := 68) hx hb dM_interest_18 (by decide) (fun h6 => ?_) (fun h6 => ?_)
    · skip
      refine lv_iconst (v := 0) hx hb dM_interest_68 (by decide) ?_
      refine lv_istore hx hb dM_interest_69 hl (by decide) rfl (fun ls hl => ?_)
      have hl : lv_has ls 8 [(7, .int 0), (0, .ref (b 0)), (1, .int amount), (2, .int per), (3, .int x), (4, .int y), (5, .int how), (6, .int rnd)] := hl
      refine lv_aload_n hx hb dM_interest_71 rfl (lv_at hl 1 rfl) ?_
      refine lv_iload hx hb dM_interest_72 (lv_at hl 0 rfl) ?_
      refine lv_if_eq (tgt := 81) hx hb dM_interest_74 (by decide) (fun _ => ?_) (fun h => absurd h (by decide))
      refine lv_iconst (v := 1) hx hb dM_interest_81 (by decide) ?_
      refine kw_put (w' := lm G b 1 (σ 0 1) (σ 0 2) u0.1 u0.2.1 u0.2.2 (σ 1) (σ 2) (σ 3) (σ 4) (σ 5) (σ 6) (σ 7) (σ 8) (σ 9) (σ 10) (σ 11) (σ 12) (σ 13) (σ 14) (σ 15) (σ 16) (σ 17) (σ 18) (σ 19) (σ 20) (σ 21) (σ 22)) (v := .int 1) (ty := .int) hx hb hg hin_M tyM tyM_ok nM hown hK hP hD hS 0 rfl rfl 0 (by decide) (hg _ gw_494) (fun _ h => h) rfl (by decide +kernel) rfl rfl (Nat.le_of_ble_eq_true rfl) dM_interest_82 rfl (fun H locs hP hD hS => ?_)
      refine lv_iload hx hb dM_interest_85 (lv_at hl 0 rfl) ?_
      refine lv_if_eq (tgt := 106) hx hb dM_interest_87 (by decide) (fun _ => ?_) (fun h => absurd h (by decide))
      refine lv_iconst (v := 0) hx hb dM_interest_106 (by decide) ?_
      have hk9 : kM_interest σ amount per x y how rnd = (0, mkM 1 (σ 0 1) (σ 0 2) (σ 0 3) (σ 0 4) (σ 0 5) (σ 1) (σ 2) (σ 3) (σ 4) (σ 5) (σ 6) (σ 7) (σ 8) (σ 9) (σ 10) (σ 11) (σ 12) (σ 13) (σ 14) (σ 15) (σ 16) (σ 17) (σ 18) (σ 19) (σ 20) (σ 21) (σ 22)) := by subst e_2 e_5; unfold kM_interest; rw [if_neg h3, if_pos h6]
      exact kx_iret hx hb hr hlocks hK hP hD hS (by rw [hk9]) (u := (u0.1, u0.2.1, u0.2.2)) (by rw [hk9] <;> rfl) dM_interest_107
    · skip
      refine lv_iload_n hx hb dM_interest_21 rfl (lv_at hl 3 rfl) ?_
      refine lv_iconst (v := 0) hx hb dM_interest_22 (by decide) ?_
      refine lv_sipush (v := 4000) hx hb dM_interest_23 (by decide) ?_
      refine kp_reti (va_runS (As := [.int x, .int 0, .int 4000]) (rest := []) ⟨hx, hb, hml, hown, hg⟩ (c_M_within l x (0 : Int32) (4000 : Int32)) ⟨kw_cB (n := 3) hg gw_604 gw_2 gw_602 (by decide +kernel) (by decide +kernel) ⟨Nat.le_of_ble_eq_true rfl, Nat.le_of_ble_eq_true rfl⟩ rfl rfl, hg _ gw_603⟩ kp_pre rfl rfl hl.1 rfl (lv_room (Nat.le_of_ble_eq_true rfl)) dM_interest_26 ⟨Nat.le_of_ble_eq_true rfl, Nat.le_of_ble_eq_true rfl⟩) ?_
      refine lv_topi (fun r_7 e_8 => ?_)
      replace e_8 := e_8.symm
      refine lv_if_eq (tgt := 68) hx hb dM_interest_29 (by decide) (fun h9 => ?_) (fun h9 => ?_)
      · skip
        refine lv_iconst (v := 0) hx hb dM_interest_68 (by decide) ?_
        refine lv_istore hx hb dM_interest_69 hl (by decide) rfl (fun ls hl => ?_)
        have hl : lv_has ls 8 [(7, .int 0), (0, .ref (b 0)), (1, .int amount), (2, .int per), (3, .int x), (4, .int y), (5, .int how), (6, .int rnd)] := hl
        refine lv_aload_n hx hb dM_interest_71 rfl (lv_at hl 1 rfl) ?_
        refine lv_iload hx hb dM_interest_72 (lv_at hl 0 rfl) ?_
        refine lv_if_eq (tgt := 81) hx hb dM_interest_74 (by decide) (fun _ => ?_) (fun h => absurd h (by decide))
        refine lv_iconst (v := 1) hx hb dM_interest_81 (by decide) ?_
        refine kw_put (w' := lm G b 1 (σ 0 1) (σ 0 2) u0.1 u0.2.1 u0.2.2 (σ 1) (σ 2) (σ 3) (σ 4) (σ 5) (σ 6) (σ 7) (σ 8) (σ 9) (σ 10) (σ 11) (σ 12) (σ 13) (σ 14) (σ 15) (σ 16) (σ 17) (σ 18) (σ 19) (σ 20) (σ 21) (σ 22)) (v := .int 1) (ty := .int) hx hb hg hin_M tyM tyM_ok nM hown hK hP hD hS 0 rfl rfl 0 (by decide) (hg _ gw_494) (fun _ h => h) rfl (by decide +kernel) rfl rfl (Nat.le_of_ble_eq_true rfl) dM_interest_82 rfl (fun H locs hP hD hS => ?_)
        refine lv_iload hx hb dM_interest_85 (lv_at hl 0 rfl) ?_
        refine lv_if_eq (tgt := 106) hx hb dM_interest_87 (by decide) (fun _ => ?_) (fun h => absurd h (by decide))
        refine lv_iconst (v := 0) hx hb dM_interest_106 (by decide) ?_
        have hk9 : kM_interest σ amount per x y how rnd = (0, mkM 1 (σ 0 1) (σ 0 2) (σ 0 3) (σ 0 4) (σ 0 5) (σ 1) (σ 2) (σ 3) (σ 4) (σ 5) (σ 6) (σ 7) (σ 8) (σ 9) (σ 10) (σ 11) (σ 12) (σ 13) (σ 14) (σ 15) (σ 16) (σ 17) (σ 18) (σ 19) (σ 20) (σ 21) (σ 22)) := by subst e_2 e_5 e_8; unfold kM_interest; rw [if_neg h3, if_neg h6, if_pos h9]
        exact kx_iret hx hb hr hlocks hK hP hD hS (by rw [hk9]) (u := (u0.1, u0.2.1, u0.2.2)) (by rw [hk9] <;> rfl) dM_interest_107
      · skip
        refine lv_iload hx hb dM_interest_32 (lv_at hl 4 rfl) ?_
        refine lv_iload_n hx hb dM_interest_34 rfl (lv_at hl 3 rfl) ?_
        refine lv_sipush (v := 4000) hx hb dM_interest_35 (by decide) ?_
        refine kp_reti (va_runS (As := [.int y, .int x, .int 4000]) (rest := []) ⟨hx, hb, hml, hown, hg⟩ (c_M_within l y x (4000 : Int32)) ⟨kw_cB (n := 3) hg gw_604 gw_2 gw_602 (by decide +kernel) (by decide +kernel) ⟨Nat.le_of_ble_eq_true rfl, Nat.le_of_ble_eq_true rfl⟩ rfl rfl, hg _ gw_603⟩ kp_pre rfl rfl hl.1 rfl (lv_room (Nat.le_of_ble_eq_true rfl)) dM_interest_38 ⟨Nat.le_of_ble_eq_true rfl, Nat.le_of_ble_eq_true rfl⟩) ?_
        refine lv_topi (fun r_10 e_11 => ?_)
        replace e_11 := e_11.symm
        refine lv_if_eq (tgt := 68) hx hb dM_interest_41 (by decide) (fun h12 => ?_) (fun h12 => ?_)
        · skip
          refine lv_iconst (v := 0) hx hb dM_interest_68 (by decide) ?_
          refine lv_istore hx hb dM_interest_69 hl (by decide) rfl (fun ls hl => ?_)
          have hl : lv_has ls 8 [(7, .int 0), (0, .ref (b 0)), (1, .int amount), (2, .int per), (3, .int x), (4, .int y), (5, .int how), (6, .int rnd)] := hl
          refine lv_aload_n hx hb dM_interest_71 rfl (lv_at hl 1 rfl) ?_
          refine lv_iload hx hb dM_interest_72 (lv_at hl 0 rfl) ?_
          refine lv_if_eq (tgt := 81) hx hb dM_interest_74 (by decide) (fun _ => ?_) (fun h => absurd h (by decide))
          refine lv_iconst (v := 1) hx hb dM_interest_81 (by decide) ?_
          refine kw_put (w' := lm G b 1 (σ 0 1) (σ 0 2) u0.1 u0.2.1 u0.2.2 (σ 1) (σ 2) (σ 3) (σ 4) (σ 5) (σ 6) (σ 7) (σ 8) (σ 9) (σ 10) (σ 11) (σ 12) (σ 13) (σ 14) (σ 15) (σ 16) (σ 17) (σ 18) (σ 19) (σ 20) (σ 21) (σ 22)) (v := .int 1) (ty := .int) hx hb hg hin_M tyM tyM_ok nM hown hK hP hD hS 0 rfl rfl 0 (by decide) (hg _ gw_494) (fun _ h => h) rfl (by decide +kernel) rfl rfl (Nat.le_of_ble_eq_true rfl) dM_interest_82 rfl (fun H locs hP hD hS => ?_)
          refine lv_iload hx hb dM_interest_85 (lv_at hl 0 rfl) ?_
          refine lv_if_eq (tgt := 106) hx hb dM_interest_87 (by decide) (fun _ => ?_) (fun h => absurd h (by decide))
          refine lv_iconst (v := 0) hx hb dM_interest_106 (by decide) ?_
          have hk9 : kM_interest σ amount per x y how rnd = (0, mkM 1 (σ 0 1) (σ 0 2) (σ 0 3) (σ 0 4) (σ 0 5) (σ 1) (σ 2) (σ 3) (σ 4) (σ 5) (σ 6) (σ 7) (σ 8) (σ 9) (σ 10) (σ 11) (σ 12) (σ 13) (σ 14) (σ 15) (σ 16) (σ 17) (σ 18) (σ 19) (σ 20) (σ 21) (σ 22)) := by subst e_2 e_5 e_8 e_11; unfold kM_interest; rw [if_neg h3, if_neg h6, if_neg h9, if_pos h12]
          exact kx_iret hx hb hr hlocks hK hP hD hS (by rw [hk9]) (u := (u0.1, u0.2.1, u0.2.2)) (by rw [hk9] <;> rfl) dM_interest_107
        · skip
          refine lv_iload hx hb dM_interest_44 (lv_at hl 5 rfl) ?_
          refine lv_iconst (v := 0) hx hb dM_interest_46 (by decide) ?_
          refine lv_iconst (v := 3) hx hb dM_interest_47 (by decide) ?_
          refine kp_reti (va_runS (As := [.int how, .int 0, .int 3]) (rest := []) ⟨hx, hb, hml, hown, hg⟩ (c_M_within l how (0 : Int32) (3 : Int32)) ⟨kw_cB (n := 3) hg gw_604 gw_2 gw_602 (by decide +kernel) (by decide +kernel) ⟨Nat.le_of_ble_eq_true rfl, Nat.le_of_ble_eq_true rfl⟩ rfl rfl, hg _ gw_603⟩ kp_pre rfl rfl hl.1 rfl (lv_room (Nat.le_of_ble_eq_true rfl)) dM_interest_48 ⟨Nat.le_of_ble_eq_true rfl, Nat.le_of_ble_eq_true rfl⟩) ?_
          refine lv_topi (fun r_13 e_14 => ?_)
          replace e_14 := e_14.symm
          refine lv_if_eq (tgt := 68) hx hb dM_interest_51 (by decide) (fun h15 => ?_) (fun h15 => ?_)
          · skip
            refine lv_iconst (v := 0) hx hb dM_interest_68 (by decide) ?_
            refine lv_istore hx hb dM_interest_69 hl (by decide) rfl (fun ls hl => ?_)
            have hl : lv_has ls 8 [(7, .int 0), (0, .ref (b 0)), (1, .int amount), (2, .int per), (3, .int x), (4, .int y), (5, .int how), (6, .int rnd)] := hl
            refine lv_aload_n hx hb dM_interest_71 rfl (lv_at hl 1 rfl) ?_
            refine lv_iload hx hb dM_interest_72 (lv_at hl 0 rfl) ?_
            refine lv_if_eq (tgt := 81) hx hb dM_interest_74 (by decide) (fun _ => ?_) (fun h => absurd h (by decide))
            refine lv_iconst (v := 1) hx hb dM_interest_81 (by decide) ?_
            refine kw_put (w' := lm G b 1 (σ 0 1) (σ 0 2) u0.1 u0.2.1 u0.2.2 (σ 1) (σ 2) (σ 3) (σ 4) (σ 5) (σ 6) (σ 7) (σ 8) (σ 9) (σ 10) (σ 11) (σ 12) (σ 13) (σ 14) (σ 15) (σ 16) (σ 17) (σ 18) (σ 19) (σ 20) (σ 21) (σ 22)) (v := .int 1) (ty := .int) hx hb hg hin_M tyM tyM_ok nM hown hK hP hD hS 0 rfl rfl 0 (by decide) (hg _ gw_494) (fun _ h => h) rfl (by decide +kernel) rfl rfl (Nat.le_of_ble_eq_true rfl) dM_interest_82 rfl (fun H locs hP hD hS => ?_)
            refine lv_iload hx hb dM_interest_85 (lv_at hl 0 rfl) ?_
            refine lv_if_eq (tgt := 106) hx hb dM_interest_87 (by decide) (fun _ => ?_) (fun h => absurd h (by decide))
            refine lv_iconst (v := 0) hx hb dM_interest_106 (by decide) ?_
            have hk9 : kM_interest σ amount per x y how rnd = (0, mkM 1 (σ 0 1) (σ 0 2) (σ 0 3) (σ 0 4) (σ 0 5) (σ 1) (σ 2) (σ 3) (σ 4) (σ 5) (σ 6) (σ 7) (σ 8) (σ 9) (σ 10) (σ 11) (σ 12) (σ 13) (σ 14) (σ 15) (σ 16) (σ 17) (σ 18) (σ 19) (σ 20) (σ 21) (σ 22)) := by subst e_2 e_5 e_8 e_11 e_14; unfold kM_interest; rw [if_neg h3, if_neg h6, if_neg h9, if_neg h12, if_pos h15]
            exact kx_iret hx hb hr hlocks hK hP hD hS (by rw [hk9]) (u := (u0.1, u0.2.1, u0.2.2)) (by rw [hk9] <;> rfl) dM_interest_107
          · skip
            refine lv_iload hx hb dM_interest_54 (lv_at hl 6 rfl) ?_
            refine lv_iconst (v := 0) hx hb dM_interest_56 (by decide) ?_
            refine lv_iconst (v := 3) hx hb dM_interest_57 (by decide) ?_
            refine kp_reti (va_runS (As := [.int rnd, .int 0, .int 3]) (rest := []) ⟨hx, hb, hml, hown, hg⟩ (c_M_within l rnd (0 : Int32) (3 : Int32)) ⟨kw_cB (n := 3) hg gw_604 gw_2 gw_602 (by decide +kernel) (by decide +kernel) ⟨Nat.le_of_ble_eq_true rfl, Nat.le_of_ble_eq_true rfl⟩ rfl rfl, hg _ gw_603⟩ kp_pre rfl rfl hl.1 rfl (lv_room (Nat.le_of_ble_eq_true rfl)) dM_interest_58 ⟨Nat.le_of_ble_eq_true rfl, Nat.le_of_ble_eq_true rfl⟩) ?_
            refine lv_topi (fun r_16 e_17 => ?_)
            replace e_17 := e_17.symm
            refine lv_if_eq (tgt := 68) hx hb dM_interest_61 (by decide) (fun h18 => ?_) (fun h18 => ?_)
            · skip
              refine lv_iconst (v := 0) hx hb dM_interest_68 (by decide) ?_
              refine lv_istore hx hb dM_interest_69 hl (by decide) rfl (fun ls hl => ?_)
              have hl : lv_has ls 8 [(7, .int 0), (0, .ref (b 0)), (1, .int amount), (2, .int per), (3, .int x), (4, .int y), (5, .int how), (6, .int rnd)] := hl
              refine lv_aload_n hx hb dM_interest_71 rfl (lv_at hl 1 rfl) ?_
              refine lv_iload hx hb dM_interest_72 (lv_at hl 0 rfl) ?_
              refine lv_if_eq (tgt := 81) hx hb dM_interest_74 (by decide) (fun _ => ?_) (fun h => absurd h (by decide))
              refine lv_iconst (v := 1) hx hb dM_interest_81 (by decide) ?_
              refine kw_put (w' := lm G b 1 (σ 0 1) (σ 0 2) u0.1 u0.2.1 u0.2.2 (σ 1) (σ 2) (σ 3) (σ 4) (σ 5) (σ 6) (σ 7) (σ 8) (σ 9) (σ 10) (σ 11) (σ 12) (σ 13) (σ 14) (σ 15) (σ 16) (σ 17) (σ 18) (σ 19) (σ 20) (σ 21) (σ 22)) (v := .int 1) (ty := .int) hx hb hg hin_M tyM tyM_ok nM hown hK hP hD hS 0 rfl rfl 0 (by decide) (hg _ gw_494) (fun _ h => h) rfl (by decide +kernel) rfl rfl (Nat.le_of_ble_eq_true rfl) dM_interest_82 rfl (fun H locs hP hD hS => ?_)
              refine lv_iload hx hb dM_interest_85 (lv_at hl 0 rfl) ?_
              refine lv_if_eq (tgt := 106) hx hb dM_interest_87 (by decide) (fun _ => ?_) (fun h => absurd h (by decide))
              refine lv_iconst (v := 0) hx hb dM_interest_106 (by decide) ?_
              have hk9 : kM_interest σ amount per x y how rnd = (0, mkM 1 (σ 0 1) (σ 0 2) (σ 0 3) (σ 0 4) (σ 0 5) (σ 1) (σ 2) (σ 3) (σ 4) (σ 5) (σ 6) (σ 7) (σ 8) (σ 9) (σ 10) (σ 11) (σ 12) (σ 13) (σ 14) (σ 15) (σ 16) (σ 17) (σ 18) (σ 19) (σ 20) (σ 21) (σ 22)) := by subst e_2 e_5 e_8 e_11 e_14 e_17; unfold kM_interest; rw [if_neg h3, if_neg h6, if_neg h9, if_neg h12, if_neg h15, if_pos h18]
              exact kx_iret hx hb hr hlocks hK hP hD hS (by rw [hk9]) (u := (u0.1, u0.2.1, u0.2.2)) (by rw [hk9] <;> rfl) dM_interest_107
            · skip
              refine lv_iconst (v := 1) hx hb dM_interest_64 (by decide) ?_
              refine lv_goto (tgt := 69) hx hb dM_interest_65 (by decide) ?_
              refine lv_istore hx hb dM_interest_69 hl (by decide) rfl (fun ls hl => ?_)
              have hl : lv_has ls 8 [(7, .int 1), (0, .ref (b 0)), (1, .int amount), (2, .int per), (3, .int x), (4, .int y), (5, .int how), (6, .int rnd)] := hl
              refine lv_aload_n hx hb dM_interest_71 rfl (lv_at hl 1 rfl) ?_
              refine lv_iload hx hb dM_interest_72 (lv_at hl 0 rfl) ?_
              refine lv_if_eq (tgt := 81) hx hb dM_interest_74 (by decide) (fun h => absurd h (by decide)) (fun _ => ?_)
              refine lv_iconst (v := 0) hx hb dM_interest_77 (by decide) ?_
              refine lv_goto (tgt := 82) hx hb dM_interest_78 (by decide) ?_
              refine kw_put (w' := lm G b 0 (σ 0 1) (σ 0 2) u0.1 u0.2.1 u0.2.2 (σ 1) (σ 2) (σ 3) (σ 4) (σ 5) (σ 6) (σ 7) (σ 8) (σ 9) (σ 10) (σ 11) (σ 12) (σ 13) (σ 14) (σ 15) (σ 16) (σ 17) (σ 18) (σ 19) (σ 20) (σ 21) (σ 22)) (v := .int 0) (ty := .int) hx hb hg hin_M tyM tyM_ok nM hown hK hP hD hS 0 rfl rfl 0 (by decide) (hg _ gw_494) (fun _ h => h) rfl (by decide +kernel) rfl rfl (Nat.le_of_ble_eq_true rfl) dM_interest_82 rfl (fun H locs hP hD hS => ?_)
              refine lv_iload hx hb dM_interest_85 (lv_at hl 0 rfl) ?_
              refine lv_if_eq (tgt := 106) hx hb dM_interest_87 (by decide) (fun h => absurd h (by decide)) (fun _ => ?_)
              refine lv_aload_n hx hb dM_interest_90 rfl (lv_at hl 1 rfl) ?_
              refine lv_iload_n hx hb dM_interest_91 rfl (lv_at hl 2 rfl) ?_
              refine lv_iload_n hx hb dM_interest_92 rfl (lv_at hl 3 rfl) ?_
              refine lv_iload_n hx hb dM_interest_93 rfl (lv_at hl 4 rfl) ?_
              refine lv_iload hx hb dM_interest_94 (lv_at hl 5 rfl) ?_
              refine lv_iload hx hb dM_interest_96 (lv_at hl 6 rfl) ?_
              refine lv_iload hx hb dM_interest_98 (lv_at hl 7 rfl) ?_
              refine kx_reti0 (va_runV (C := RM) (As := [.int amount, .int per, .int x, .int y, .int how, .int rnd]) (rest := []) ⟨hx, hb, hml, hown, hg⟩ (c_M_interestOn l D G b (mkM 0 (σ 0 1) (σ 0 2) (σ 0 3) (σ 0 4) (σ 0 5) (σ 1) (σ 2) (σ 3) (σ 4) (σ 5) (σ 6) (σ 7) (σ 8) (σ 9) (σ 10) (σ 11) (σ 12) (σ 13) (σ 14) (σ 15) (σ 16) (σ 17) (σ 18) (σ 19) (σ 20) (σ 21) (σ 22)) (u0.1, u0.2.1, u0.2.2) amount per x y how rnd _ (kx_win4000 (by subst e_2 e_5 e_8 e_11 e_14 e_17; exact h12))) ⟨kw_cB (n := 6) hg gw_607 gw_2 gw_605 (by decide +kernel) (by decide +kernel) ⟨Nat.le_of_ble_eq_true rfl, Nat.le_of_ble_eq_true rfl⟩ rfl rfl, hg _ gw_606, hg _ gw_744⟩ (kw_preV (q0 := 0) hK hP hD rfl rfl) rfl rfl hl.1 rfl (lv_room (Nat.le_of_ble_eq_true rfl)) dM_interest_100 ⟨Nat.le_of_ble_eq_true rfl, Nat.le_of_ble_eq_true rfl⟩) hP hD hS (fun _ h => Or.inr h) (fun u_19 u_20 u_21 H locs hP hD hS => ?_)
              refine lv_topi (fun r_22 e_23 => ?_)
              replace e_23 := e_23.symm
              refine lv_goto (tgt := 107) hx hb dM_interest_103 (by decide) ?_
              have hk9 : kM_interest σ amount per x y how rnd = (r_22, mkM 0 (σ 0 1) (σ 0 2) (σ 0 3) (σ 0 4) (σ 0 5) (σ 1) (σ 2) (σ 3) (σ 4) (σ 5) (σ 6) (σ 7) (σ 8) (σ 9) (σ 10) (σ 11) (σ 12) (σ 13) (σ 14) (σ 15) (σ 16) (σ 17) (σ 18) (σ 19) (σ 20) (σ 21) (σ 22)) := by subst e_2 e_5 e_8 e_11 e_14 e_17 e_23; unfold kM_interest; rw [if_neg h3, if_neg h6, if_neg h9, if_neg h12, if_neg h15, if_neg h18]
              exact kx_iret hx hb hr hlocks hK hP hD hS (by rw [hk9]) (u := (u_19, u_20, u_21)) (by rw [hk9] <;> rfl) dM_interest_107
def kM_accrue (σ : KS) (ln : Int32) : KS := mkM (σ 0 0) (σ 0 1) (σ 0 2) (σ 0 3) (σ 0 4) (σ 0 5) (σ 1) (σ 2) (σ 3) (σ 4) (σ 5) (σ 6) (σ 7) (σ 8) (upd (σ 9) ln.toNatClampNeg ((σ 9 ln.toNatClampNeg) + (kM_own σ ln (σ 7 ln.toNatClampNeg) (σ 10 ln.toNatClampNeg) (σ 0 1)))) (upd (σ 10) ln.toNatClampNeg (σ 0 1)) (σ 11) (σ 12) (σ 13) (σ 14) (σ 15) (σ 16) (σ 17) (σ 18) (σ 19) (σ 20) (σ 21) (σ 22)
abbrev wgM_accrue : List Cond := .code yM_accrue cM_accrue 2 none :: GW
abbrev rm_M_accrue : Room := { frames := 6, cells := 0, slots := 0, locals := 143 }
set_option maxRecDepth 100000 in
set_option maxHeartbeats 4000000 in
theorem c_M_accrue (l : Launch) (D : va_G) (G : Nat → ClassId) (b : Nat → Nat) (σ : KS) (u0 : Int32 × Int32 × Int32) (ln : Int32) (sz : Nat) (hln : vp_in ln 3) (hto : σ 0 1 ≤ 1073741824) : Met l yM_accrue wgM_accrue rm_M_accrue (kw_Pc D vwCl (gt G) [.ref (b 0), .int ln] (mcells G b (scr σ u0)) sz) (kx_v D vwCl (gt G) (mcells G b (scr σ u0)) sz (fun u => mcells G b (scr (kM_accrue σ ln) u))) 0 0 (va_A (mcells G b (scr σ u0)) sz) := by
  refine Met.ofW (cc := cM_accrue) (maxL := 2) (ret := none) (by decide) rfl ?_
  intro p e s m args below meth c s₁ B hml hv
  have hx := B.exec
  have hb := B.bytes
  have hr := B.returns
  have hts := atoms_spec (ws := wgM_accrue) B.pre
  have hg : ∀ w ∈ GW, w.before args s = true := fun w h => hts w (List.mem_cons_of_mem _ h)
  have hown : s.vm.findClass RM = some m.cls := findClass_of_methodNamed B.named
  have hlocks := B.notSynchronized
  obtain ⟨hv, hsz, hP, hK, hD0⟩ := hv
  subst hsz
  have hD := hD0.self (sz := s.heap.size)
  have hS : va_S (va_A (mcells G b (scr σ u0)) s.heap.size) s.heap s.heap [] := va_S.rf
  refine kw_entry [.ref (b 0), .int ln] hv (Nat.le_of_ble_eq_true rfl) (fun ls hl => ?_)
  have hl : lv_has ls 2 [(0, .ref (b 0)), (1, .int ln)] := hl
  refine lv_aload_n hx hb dM_accrue_0 rfl (lv_at hl 0 rfl) ?_
  refine va_get (v := .ref (b 11)) hx hb hg hin_M hown hK hP 0 rfl rfl 11 (by decide) (hg _ gw_505) (fun _ h => h) rfl dM_accrue_1 ?_
  refine lv_iload_n hx hb dM_accrue_4 rfl (lv_at hl 1 rfl) ?_
  refine lv_aload_n hx hb dM_accrue_5 rfl (lv_at hl 0 rfl) ?_
  refine va_get (v := .ref (b 11)) hx hb hg hin_M hown hK hP 0 rfl rfl 11 (by decide) (hg _ gw_505) (fun _ h => h) rfl dM_accrue_6 ?_
  refine lv_iload_n hx hb dM_accrue_9 rfl (lv_at hl 1 rfl) ?_
  refine kw_iald (v := σ 9 ln.toNatClampNeg) (j := ln.toNatClampNeg) hx hb hK hP 9 0 rfl rfl hln rfl rfl dM_accrue_10 ?_
  refine lv_aload_n hx hb dM_accrue_11 rfl (lv_at hl 0 rfl) ?_
  refine lv_iload_n hx hb dM_accrue_12 rfl (lv_at hl 1 rfl) ?_
  refine lv_aload_n hx hb dM_accrue_13 rfl (lv_at hl 0 rfl) ?_
  refine va_get (v := .ref (b 9)) hx hb hg hin_M hown hK hP 0 rfl rfl 9 (by decide) (hg _ gw_503) (fun _ h => h) rfl dM_accrue_14 ?_
  refine lv_iload_n hx hb dM_accrue_17 rfl (lv_at hl 1 rfl) ?_
  refine kw_iald (v := σ 7 ln.toNatClampNeg) (j := ln.toNatClampNeg) hx hb hK hP 7 0 rfl rfl hln rfl rfl dM_accrue_18 ?_
  refine lv_aload_n hx hb dM_accrue_19 rfl (lv_at hl 0 rfl) ?_
  refine va_get (v := .ref (b 12)) hx hb hg hin_M hown hK hP 0 rfl rfl 12 (by decide) (hg _ gw_506) (fun _ h => h) rfl dM_accrue_20 ?_
  refine lv_iload_n hx hb dM_accrue_23 rfl (lv_at hl 1 rfl) ?_
  refine kw_iald (v := σ 10 ln.toNatClampNeg) (j := ln.toNatClampNeg) hx hb hK hP 10 0 rfl rfl hln rfl rfl dM_accrue_24 ?_
  refine lv_aload_n hx hb dM_accrue_25 rfl (lv_at hl 0 rfl) ?_
  refine va_get (v := .int (σ 0 1)) hx hb hg hin_M hown hK hP 0 rfl rfl 1 (by decide) (hg _ gw_495) (fun _ h => h) rfl dM_accrue_26 ?_
  refine kx_reti0 (va_runV (C := RM) (As := [.int ln, .int (σ 7 ln.toNatClampNeg), .int (σ 10 ln.toNatClampNeg), .int (σ 0 1)]) (rest := [.int (σ 9 ln.toNatClampNeg), .int ln, .ref (b 11)]) ⟨hx, hb, hml, hown, hg⟩ (c_M_own l D G b σ (u0.1, u0.2.1, u0.2.2) ln (σ 7 ln.toNatClampNeg) (σ 10 ln.toNatClampNeg) (σ 0 1) _ hln hto) ⟨kw_cB (n := 4) hg gw_648 gw_2 gw_646 (by decide +kernel) (by decide +kernel) ⟨Nat.le_of_ble_eq_true rfl, Nat.le_of_ble_eq_true rfl⟩ rfl rfl, hg _ gw_647, hg _ gw_751⟩ (kw_preV (q0 := 0) hK hP hD rfl rfl) rfl rfl hl.1 rfl (lv_room (Nat.le_of_ble_eq_true rfl)) dM_accrue_29 ⟨Nat.le_of_ble_eq_true rfl, Nat.le_of_ble_eq_true rfl⟩) hP hD hS (fun _ h => Or.inr h) (fun u_1 u_2 u_3 H locs hP hD hS => ?_)
  refine lv_topi (fun r_4 e_5 => ?_)
  replace e_5 := e_5.symm
  refine lv_iadd hx hb dM_accrue_32 ?_
  refine kw_iast (w' := lm G b (σ 0 0) (σ 0 1) (σ 0 2) u_1 u_2 u_3 (σ 1) (σ 2) (σ 3) (σ 4) (σ 5) (σ 6) (σ 7) (σ 8) (upd (σ 9) ln.toNatClampNeg ((σ 9 ln.toNatClampNeg) + r_4)) (σ 10) (σ 11) (σ 12) (σ 13) (σ 14) (σ 15) (σ 16) (σ 17) (σ 18) (σ 19) (σ 20) (σ 21) (σ 22)) (j := ln.toNatClampNeg) hx hb hK hP hD hS 9 0 rfl rfl hln rfl dM_accrue_33 rfl (fun H locs hP hD hS => ?_)
  refine lv_aload_n hx hb dM_accrue_34 rfl (lv_at hl 0 rfl) ?_
  refine va_get (v := .ref (b 12)) hx hb hg hin_M hown hK hP 0 rfl rfl 12 (by decide) (hg _ gw_506) (fun _ h => h) rfl dM_accrue_35 ?_
  refine lv_iload_n hx hb dM_accrue_38 rfl (lv_at hl 1 rfl) ?_
  refine lv_aload_n hx hb dM_accrue_39 rfl (lv_at hl 0 rfl) ?_
  refine va_get (v := .int (σ 0 1)) hx hb hg hin_M hown hK hP 0 rfl rfl 1 (by decide) (hg _ gw_495) (fun _ h => h) rfl dM_accrue_40 ?_
  refine kw_iast (w' := lm G b (σ 0 0) (σ 0 1) (σ 0 2) u_1 u_2 u_3 (σ 1) (σ 2) (σ 3) (σ 4) (σ 5) (σ 6) (σ 7) (σ 8) (upd (σ 9) ln.toNatClampNeg ((σ 9 ln.toNatClampNeg) + r_4)) (upd (σ 10) ln.toNatClampNeg (σ 0 1)) (σ 11) (σ 12) (σ 13) (σ 14) (σ 15) (σ 16) (σ 17) (σ 18) (σ 19) (σ 20) (σ 21) (σ 22)) (j := ln.toNatClampNeg) hx hb hK hP hD hS 10 0 rfl rfl hln rfl dM_accrue_43 rfl (fun H locs hP hD hS => ?_)
  have hk9 : kM_accrue σ ln = mkM (σ 0 0) (σ 0 1) (σ 0 2) (σ 0 3) (σ 0 4) (σ 0 5) (σ 1) (σ 2) (σ 3) (σ 4) (σ 5) (σ 6) (σ 7) (σ 8) (upd (σ 9) ln.toNatClampNeg ((σ 9 ln.toNatClampNeg) + r_4)) (upd (σ 10) ln.toNatClampNeg (σ 0 1)) (σ 11) (σ 12) (σ 13) (σ 14) (σ 15) (σ 16) (σ 17) (σ 18) (σ 19) (σ 20) (σ 21) (σ 22) := by subst e_5; rfl
  exact kx_vret hx hb hr hlocks hK hP hD hS (u := (u_1, u_2, u_3)) (by rw [hk9] <;> rfl) dM_accrue_44
def lf_bo (σ : KS) (ln : Int32) (day : Int32) : Nat → Int32 → Int32 → Int32
  | 0, _, _ => 0
  | n + 1, found, kk => if (σ 17 ln.toNatClampNeg) ≤ kk then found else (if found = (0 : Int32) then (if (σ 18 (((60 * ln) + kk).toNatClampNeg)) = day then (lf_bo σ ln day n (1 : Int32) (kk + 1)) else (lf_bo σ ln day n (0 : Int32) (kk + 1))) else (lf_bo σ ln day n (1 : Int32) (kk + 1)))
def lok_bo (σ : KS) (ln : Int32) (day : Int32) : Nat → Int32 → Int32 → Bool
  | 0, _, _ => false
  | n + 1, found, kk => if (σ 17 ln.toNatClampNeg) ≤ kk then true else (if found = (0 : Int32) then (if (σ 18 (((60 * ln) + kk).toNatClampNeg)) = day then (lok_bo σ ln day n (1 : Int32) (kk + 1)) else (lok_bo σ ln day n (0 : Int32) (kk + 1))) else (lok_bo σ ln day n (1 : Int32) (kk + 1)))
def kM_billedOn (σ : KS) (ln : Int32) (day : Int32) : Int32 := lf_bo σ ln day 61 (0 : Int32) (0 : Int32)
abbrev wgM_billedOn : List Cond := .code yM_billedOn cM_billedOn 5 (some .boolean) :: GW
abbrev rm_M_billedOn : Room := { frames := 0, cells := 0, slots := 0, locals := 0 }
theorem lok_bo_ok (σ : KS) (ln day : Int32) (hbl : 0 ≤ (σ 17 ln.toNatClampNeg).toInt ∧ (σ 17 ln.toNatClampNeg).toInt < 60) : ∀ (n k : Nat) (found : Int32), 60 ≤ k + n → k ≤ 60 → lok_bo σ ln day (n + 1) found (nI k) = true := by
  intro n
  induction n with
  | zero =>
    intro k found h1 h2
    unfold lok_bo
    rw [if_pos]
    rw [Int32.le_iff_toInt_le, nI_toInt (by omega)]
    omega
  | succ n ih =>
    intro k found h1 h2
    unfold lok_bo
    split
    · rfl
    · rename_i h3
      rw [Int32.le_iff_toInt_le, nI_toInt (by omega)] at h3
      rw [nI_1]
      repeat' split
      all_goals exact ih _ _ (by omega) (by omega)
set_option maxRecDepth 100000 in
set_option maxHeartbeats 4000000 in
theorem c_M_billedOn (l : Launch) (D : va_G) (G : Nat → ClassId) (b : Nat → Nat) (σ : KS) (u0 : Int32 × Int32 × Int32) (ln : Int32) (day : Int32) (sz : Nat) (hln : vp_in ln 3) (hbl : 0 ≤ (σ 17 ln.toNatClampNeg).toInt ∧ (σ 17 ln.toNatClampNeg).toInt < 60) : Met l yM_billedOn wgM_billedOn rm_M_billedOn (kw_Pc D vwCl (gt G) [.ref (b 0), .int ln, .int day] (mcells G b (scr σ u0)) sz) (kx_i D vwCl (gt G) (mcells G b (scr σ u0)) sz (kM_billedOn σ ln day) (fun u => mcells G b (scr σ u))) 0 0 (va_A (mcells G b (scr σ u0)) sz) := by
  refine Met.ofW (cc := cM_billedOn) (maxL := 5) (ret := (some .boolean)) (by decide) rfl ?_
  intro p e s m args below meth c s₁ B hml hv
  have hx := B.exec
  have hb := B.bytes
  have hr := B.returns
  have hts := atoms_spec (ws := wgM_billedOn) B.pre
  have hg : ∀ w ∈ GW, w.before args s = true := fun w h => hts w (List.mem_cons_of_mem _ h)
  have hown : s.vm.findClass RM = some m.cls := findClass_of_methodNamed B.named
  have hlocks := B.notSynchronized
  obtain ⟨hv, hsz, hP, hK, hD0⟩ := hv
  subst hsz
  have hD := hD0.self (sz := s.heap.size)
  have hS : va_S (va_A (mcells G b (scr σ u0)) s.heap.size) s.heap s.heap [] := va_S.rf
  refine kw_entry [.ref (b 0), .int ln, .int day] hv (Nat.le_of_ble_eq_true rfl) (fun ls hl => ?_)
  have hl : lv_has ls 5 [(0, .ref (b 0)), (1, .int ln), (2, .int day)] := hl
  refine lv_iconst (v := 0) hx hb dM_billedOn_0 (by decide) ?_
  refine lv_istore_n hx hb dM_billedOn_1 rfl hl (by decide) rfl (fun ls hl => ?_)
  have hl : lv_has ls 5 [(3, .int 0), (0, .ref (b 0)), (1, .int ln), (2, .int day)] := hl
  refine lv_iconst (v := 0) hx hb dM_billedOn_2 (by decide) ?_
  refine lv_istore hx hb dM_billedOn_3 hl (by decide) rfl (fun ls hl => ?_)
  have hl : lv_has ls 5 [(4, .int 0), (3, .int 0), (0, .ref (b 0)), (1, .int ln), (2, .int day)] := hl
  have loop : ∀ (n : Nat) (found : Int32) (kk : Int32) (ls : Array Slot) (H : Heap) (locs : List Loc), lok_bo σ ln day n found kk = true → lf_bo σ ln day n found kk = kM_billedOn σ ln day → (kz_in found ∧ kn_in kk 60) → lv_has ls 5 [(4, .int kk), (3, .int found), (0, .ref (b 0)), (1, .int ln), (2, .int day)] → va_P D vwCl (lm G b (σ 0 0) (σ 0 1) (σ 0 2) u0.1 u0.2.1 u0.2.2 (σ 1) (σ 2) (σ 3) (σ 4) (σ 5) (σ 6) (σ 7) (σ 8) (σ 9) (σ 10) (σ 11) (σ 12) (σ 13) (σ 14) (σ 15) (σ 16) (σ 17) (σ 18) (σ 19) (σ 20) (σ 21) (σ 22)) H → va_D (va_A (mcells G b (scr σ u0)) s.heap.size) (lm G b (σ 0 0) (σ 0 1) (σ 0 2) u0.1 u0.2.1 u0.2.2 (σ 1) (σ 2) (σ 3) (σ 4) (σ 5) (σ 6) (σ 7) (σ 8) (σ 9) (σ 10) (σ 11) (σ 12) (σ 13) (σ 14) (σ 15) (σ 16) (σ 17) (σ 18) (σ 19) (σ 20) (σ 21) (σ 22)) → va_S (va_A (mcells G b (scr σ u0)) s.heap.size) s.heap H locs → W p l e (headSpec wgM_billedOn rm_M_billedOn).room s m args below meth c H locs 0 0 (MQ below (kx_i D vwCl (gt G) (mcells G b (scr σ u0)) s.heap.size (kM_billedOn σ ln day) (fun u => mcells G b (scr σ u))) args s 0 0 (va_A (mcells G b (scr σ u0)) s.heap.size)) (F0 m 5 ls []) := by
    intro n
    induction n with
    | zero => intro found kk ls H locs hok; exact absurd hok (by unfold lok_bo; decide)
    | succ n ih =>
      intro found kk ls H locs hok hk hi hl hP hD hS
      refine lv_iload hx hb dM_billedOn_5 (lv_at hl 0 rfl) ?_
      refine lv_aload_n hx hb dM_billedOn_7 rfl (lv_at hl 2 rfl) ?_
      refine va_get (v := .ref (b 19)) hx hb hg hin_M hown hK hP 0 rfl rfl 19 (by decide) (hg _ gw_513) (fun _ h => h) rfl dM_billedOn_8 ?_
      refine lv_iload_n hx hb dM_billedOn_11 rfl (lv_at hl 3 rfl) ?_
      refine kw_iald (v := σ 17 ln.toNatClampNeg) (j := ln.toNatClampNeg) hx hb hK hP 17 0 rfl rfl hln rfl rfl dM_billedOn_12 ?_
      refine lv_icmp_ge (tgt := 48) hx hb dM_billedOn_13 (by decide) (fun h1 => ?_) (fun h1 => ?_)
      · skip
        refine lv_iload_n hx hb dM_billedOn_48 rfl (lv_at hl 1 rfl) ?_
        have hk9 : kM_billedOn σ ln day = found := by rw [← hk, lf_bo, if_pos h1]
        exact kx_zret hx hb hr (kz_nar hi.1) hlocks hK hP hD hS hk9.symm (u := (u0.1, u0.2.1, u0.2.2)) rfl dM_billedOn_49
      · skip
        refine lv_iload_n hx hb dM_billedOn_16 rfl (lv_at hl 1 rfl) ?_
        refine lv_if_ne (tgt := 36) hx hb dM_billedOn_17 (by decide) (fun h2 => ?_) (fun h2 => ?_)
        · skip
          refine lv_iconst (v := 1) hx hb dM_billedOn_36 (by decide) ?_
          refine lv_goto (tgt := 41) hx hb dM_billedOn_37 (by decide) ?_
          refine lv_istore_n hx hb dM_billedOn_41 rfl hl (by decide) rfl (fun ls hl => ?_)
          have hl : lv_has ls 5 [(3, .int 1), (4, .int kk), (0, .ref (b 0)), (1, .int ln), (2, .int day)] := hl
          refine lv_iinc (v := kk + 1) hx hb dM_billedOn_42 hl (k := 1) rfl (by first | rfl | decide) (by decide) rfl (fun ls hl => ?_)
          have hl : lv_has ls 5 [(4, .int (kk + 1)), (3, .int 1), (0, .ref (b 0)), (1, .int ln), (2, .int day)] := hl
          refine lv_goto (tgt := 5) hx hb dM_billedOn_45 (by decide) ?_
          exact ih (1 : Int32) (kk + 1) _ _ _ (by rw [← hok, lok_bo, if_neg h1, if_neg h2]) (by rw [← hk, lf_bo, if_neg h1, if_neg h2]) ⟨(by first | exact Or.inl rfl | exact Or.inr rfl), (kn_sB hi.2 h1 (Int.le_of_lt hbl.2)).1⟩ (lv_sub hl [0, 1, 2, 3, 4] rfl) hP hD hS
        · skip
          refine lv_aload_n hx hb dM_billedOn_20 rfl (lv_at hl 2 rfl) ?_
          refine va_get (v := .ref (b 20)) hx hb hg hin_M hown hK hP 0 rfl rfl 20 (by decide) (hg _ gw_514) (fun _ h => h) rfl dM_billedOn_21 ?_
          refine lv_bipush (v := 60) hx hb dM_billedOn_24 (by decide) ?_
          refine lv_iload_n hx hb dM_billedOn_26 rfl (lv_at hl 3 rfl) ?_
          refine lv_imul hx hb dM_billedOn_27 ?_
          refine lv_iload hx hb dM_billedOn_28 (lv_at hl 0 rfl) ?_
          refine lv_iadd hx hb dM_billedOn_30 ?_
          refine kw_iald (v := σ 18 (((60 * ln) + kk).toNatClampNeg)) (j := (((60 * ln) + kk).toNatClampNeg)) hx hb hK hP 18 0 rfl rfl (kx_ix60 hln (kn_sB hi.2 h1 (Int.le_of_lt hbl.2)).2) rfl rfl dM_billedOn_31 ?_
          refine lv_iload_n hx hb dM_billedOn_32 rfl (lv_at hl 4 rfl) ?_
          refine lv_icmp_ne (tgt := 40) hx hb dM_billedOn_33 (by decide) (fun h3 => ?_) (fun h3 => ?_)
          · skip
            refine lv_iconst (v := 0) hx hb dM_billedOn_40 (by decide) ?_
            refine lv_istore_n hx hb dM_billedOn_41 rfl hl (by decide) rfl (fun ls hl => ?_)
            have hl : lv_has ls 5 [(3, .int 0), (4, .int kk), (0, .ref (b 0)), (1, .int ln), (2, .int day)] := hl
            refine lv_iinc (v := kk + 1) hx hb dM_billedOn_42 hl (k := 1) rfl (by first | rfl | decide) (by decide) rfl (fun ls hl => ?_)
            have hl : lv_has ls 5 [(4, .int (kk + 1)), (3, .int 0), (0, .ref (b 0)), (1, .int ln), (2, .int day)] := hl
            refine lv_goto (tgt := 5) hx hb dM_billedOn_45 (by decide) ?_
            exact ih (0 : Int32) (kk + 1) _ _ _ (by rw [← hok, lok_bo, if_neg h1, if_pos h2, if_neg h3]) (by rw [← hk, lf_bo, if_neg h1, if_pos h2, if_neg h3]) ⟨(by first | exact Or.inl rfl | exact Or.inr rfl), (kn_sB hi.2 h1 (Int.le_of_lt hbl.2)).1⟩ (lv_sub hl [0, 1, 2, 3, 4] rfl) hP hD hS
          · skip
            refine lv_iconst (v := 1) hx hb dM_billedOn_36 (by decide) ?_
            refine lv_goto (tgt := 41) hx hb dM_billedOn_37 (by decide) ?_
            refine lv_istore_n hx hb dM_billedOn_41 rfl hl (by decide) rfl (fun ls hl => ?_)
            have hl : lv_has ls 5 [(3, .int 1), (4, .int kk), (0, .ref (b 0)), (1, .int ln), (2, .int day)] := hl
            refine lv_iinc (v := kk + 1) hx hb dM_billedOn_42 hl (k := 1) rfl (by first | rfl | decide) (by decide) rfl (fun ls hl => ?_)
            have hl : lv_has ls 5 [(4, .int (kk + 1)), (3, .int 1), (0, .ref (b 0)), (1, .int ln), (2, .int day)] := hl
            refine lv_goto (tgt := 5) hx hb dM_billedOn_45 (by decide) ?_
            exact ih (1 : Int32) (kk + 1) _ _ _ (by rw [← hok, lok_bo, if_neg h1, if_pos h2, if_pos h3]) (by rw [← hk, lf_bo, if_neg h1, if_pos h2, if_pos h3]) ⟨(by first | exact Or.inl rfl | exact Or.inr rfl), (kn_sB hi.2 h1 (Int.le_of_lt hbl.2)).1⟩ (lv_sub hl [0, 1, 2, 3, 4] rfl) hP hD hS
  exact loop 61 (0 : Int32) (0 : Int32) _ _ _ (lok_bo_ok σ ln day hbl 60 0 0 (by decide) (by decide)) (by rfl) ⟨Or.inl rfl, kn_0⟩ (lv_sub hl [0, 1, 2, 3, 4] rfl) hP hD hS
def kM_whichDue (σ : KS) (ln : Int32) : Int32 := if (kM_monthsSince σ ln) ≤ (0 : Int32) then 0 else (if (kM_dueDay (σ 1 ln.toNatClampNeg) (kM_monthsSince σ ln)) = (σ 0 1) then (kM_monthsSince σ ln) else 0)
abbrev wgM_whichDue : List Cond := .code yM_whichDue cM_whichDue 3 (some .int) :: GW
abbrev rm_M_whichDue : Room := { frames := 4, cells := 0, slots := 0, locals := 91 }
set_option maxRecDepth 100000 in
set_option maxHeartbeats 4000000 in
theorem c_M_whichDue (l : Launch) (D : va_G) (G : Nat → ClassId) (b : Nat → Nat) (σ : KS) (u0 : Int32 × Int32 × Int32) (ln : Int32) (sz : Nat) (hln : vp_in ln 3) : Met l yM_whichDue wgM_whichDue rm_M_whichDue (kw_Pc D vwCl (gt G) [.ref (b 0), .int ln] (mcells G b (scr σ u0)) sz) (kx_i D vwCl (gt G) (mcells G b (scr σ u0)) sz (kM_whichDue σ ln) (fun u => mcells G b (scr σ u))) 0 0 (va_A (mcells G b (scr σ u0)) sz) := by
  refine Met.ofW (cc := cM_whichDue) (maxL := 3) (ret := (some .int)) (by decide) rfl ?_
  intro p e s m args below meth c s₁ B hml hv
  have hx := B.exec
  have hb := B.bytes
  have hr := B.returns
  have hts := atoms_spec (ws := wgM_whichDue) B.pre
  have hg : ∀ w ∈ GW, w.before args s = true := fun w h => hts w (List.mem_cons_of_mem _ h)
  have hown : s.vm.findClass RM = some m.cls := findClass_of_methodNamed B.named
  have hlocks := B.notSynchronized
  obtain ⟨hv, hsz, hP, hK, hD0⟩ := hv
  subst hsz
  have hD := hD0.self (sz := s.heap.size)
  have hS : va_S (va_A (mcells G b (scr σ u0)) s.heap.size) s.heap s.heap [] := va_S.rf
  refine kw_entry [.ref (b 0), .int ln] hv (Nat.le_of_ble_eq_true rfl) (fun ls hl => ?_)
  have hl : lv_has ls 3 [(0, .ref (b 0)), (1, .int ln)] := hl
  refine lv_aload_n hx hb dM_whichDue_0 rfl (lv_at hl 0 rfl) ?_
  refine lv_iload_n hx hb dM_whichDue_1 rfl (lv_at hl 1 rfl) ?_
  refine kx_reti0 (va_runV (C := RM) (As := [.int ln]) (rest := []) ⟨hx, hb, hml, hown, hg⟩ (c_M_monthsSince l D G b σ (u0.1, u0.2.1, u0.2.2) ln _ hln) ⟨kw_cB (n := 1) hg gw_635 gw_2 gw_633 (by decide +kernel) (by decide +kernel) ⟨Nat.le_of_ble_eq_true rfl, Nat.le_of_ble_eq_true rfl⟩ rfl rfl, hg _ gw_634, hg _ gw_748⟩ (kw_preV (q0 := 0) hK hP hD rfl rfl) rfl rfl hl.1 rfl (lv_room (Nat.le_of_ble_eq_true rfl)) dM_whichDue_2 ⟨Nat.le_of_ble_eq_true rfl, Nat.le_of_ble_eq_true rfl⟩) hP hD hS (fun _ h => Or.inr h) (fun u_1 u_2 u_3 H locs hP hD hS => ?_)
  refine lv_topi (fun r_4 e_5 => ?_)
  replace e_5 := e_5.symm
  refine lv_istore_n hx hb dM_whichDue_5 rfl hl (by decide) rfl (fun ls hl => ?_)
  have hl : lv_has ls 3 [(2, .int r_4), (0, .ref (b 0)), (1, .int ln)] := hl
  refine lv_iload_n hx hb dM_whichDue_6 rfl (lv_at hl 0 rfl) ?_
  refine lv_if_le (tgt := 32) hx hb dM_whichDue_7 (by decide) (fun h6 => ?_) (fun h6 => ?_)
  · skip
    refine lv_iconst (v := 0) hx hb dM_whichDue_32 (by decide) ?_
    have hk9 : kM_whichDue σ ln = 0 := by subst e_5; unfold kM_whichDue; rw [if_pos h6]
    exact kx_iret hx hb hr hlocks hK hP hD hS hk9.symm (u := (u_1, u_2, u_3)) rfl dM_whichDue_33
  · skip
    refine lv_aload_n hx hb dM_whichDue_10 rfl (lv_at hl 1 rfl) ?_
    refine lv_aload_n hx hb dM_whichDue_11 rfl (lv_at hl 1 rfl) ?_
    refine va_get (v := .ref (b 3)) hx hb hg hin_M hown hK hP 0 rfl rfl 3 (by decide) (hg _ gw_497) (fun _ h => h) rfl dM_whichDue_12 ?_
    refine lv_iload_n hx hb dM_whichDue_15 rfl (lv_at hl 2 rfl) ?_
    refine kw_iald (v := σ 1 ln.toNatClampNeg) (j := ln.toNatClampNeg) hx hb hK hP 1 0 rfl rfl hln rfl rfl dM_whichDue_16 ?_
    refine lv_iload_n hx hb dM_whichDue_17 rfl (lv_at hl 0 rfl) ?_
    refine kx_reti0 (va_runV (C := RM) (As := [.int (σ 1 ln.toNatClampNeg), .int r_4]) (rest := []) ⟨hx, hb, hml, hown, hg⟩ (c_M_dueDay l D G b σ (u_1, u_2, u_3) (σ 1 ln.toNatClampNeg) r_4 _) ⟨kw_cB (n := 2) hg gw_638 gw_2 gw_636 (by decide +kernel) (by decide +kernel) ⟨Nat.le_of_ble_eq_true rfl, Nat.le_of_ble_eq_true rfl⟩ rfl rfl, hg _ gw_637, hg _ gw_749⟩ (kw_preV (q0 := 0) hK hP hD rfl rfl) rfl rfl hl.1 rfl (lv_room (Nat.le_of_ble_eq_true rfl)) dM_whichDue_18 ⟨Nat.le_of_ble_eq_true rfl, Nat.le_of_ble_eq_true rfl⟩) hP hD hS (fun _ h => Or.inr h) (fun u_7 u_8 u_9 H locs hP hD hS => ?_)
    refine lv_topi (fun r_10 e_11 => ?_)
    replace e_11 := e_11.symm
    refine lv_aload_n hx hb dM_whichDue_21 rfl (lv_at hl 1 rfl) ?_
    refine va_get (v := .int (σ 0 1)) hx hb hg hin_M hown hK hP 0 rfl rfl 1 (by decide) (hg _ gw_495) (fun _ h => h) rfl dM_whichDue_22 ?_
    refine lv_icmp_ne (tgt := 32) hx hb dM_whichDue_25 (by decide) (fun h12 => ?_) (fun h12 => ?_)
    · skip
      refine lv_iconst (v := 0) hx hb dM_whichDue_32 (by decide) ?_
      have hk9 : kM_whichDue σ ln = 0 := by subst e_5 e_11; unfold kM_whichDue; rw [if_neg h6, if_neg h12]
      exact kx_iret hx hb hr hlocks hK hP hD hS hk9.symm (u := (u_7, u_8, u_9)) rfl dM_whichDue_33
    · skip
      refine lv_iload_n hx hb dM_whichDue_28 rfl (lv_at hl 0 rfl) ?_
      refine lv_goto (tgt := 33) hx hb dM_whichDue_29 (by decide) ?_
      have hk9 : kM_whichDue σ ln = r_4 := by subst e_5 e_11; unfold kM_whichDue; rw [if_neg h6, if_pos h12]
      exact kx_iret hx hb hr hlocks hK hP hD hS hk9.symm (u := (u_7, u_8, u_9)) rfl dM_whichDue_33
def kM_makeBill (σ : KS) (ln : Int32) (kd : Int32) : KS := if ((σ 7 ln.toNatClampNeg) - (σ 14 (((4 * ln) + 2).toNatClampNeg))) < (if (σ 8 ln.toNatClampNeg) ≤ (σ 9 ln.toNatClampNeg) then (0 : Int32) else (σ 8 ln.toNatClampNeg) - (σ 9 ln.toNatClampNeg)) then (mkM (σ 0 0) (σ 0 1) (σ 0 2) (σ 0 3) (σ 0 4) (σ 0 5) (σ 1) (σ 2) (σ 3) (σ 4) (σ 5) (σ 6) (σ 7) (σ 8) (upd (σ 9) ln.toNatClampNeg 0) (σ 10) (σ 11) (σ 12) (σ 13) (upd (upd (upd (σ 14) (((4 * ln) + 1).toNatClampNeg) ((σ 14 (((4 * ln) + 1).toNatClampNeg)) + (σ 9 ln.toNatClampNeg))) (((4 * ln) + 2).toNatClampNeg) (((upd (σ 14) (((4 * ln) + 1).toNatClampNeg) ((σ 14 (((4 * ln) + 1).toNatClampNeg)) + (σ 9 ln.toNatClampNeg))) (((4 * ln) + 2).toNatClampNeg)) + ((σ 7 ln.toNatClampNeg) - (σ 14 (((4 * ln) + 2).toNatClampNeg))))) (((4 * ln) + 3).toNatClampNeg) (((upd (upd (σ 14) (((4 * ln) + 1).toNatClampNeg) ((σ 14 (((4 * ln) + 1).toNatClampNeg)) + (σ 9 ln.toNatClampNeg))) (((4 * ln) + 2).toNatClampNeg) (((upd (σ 14) (((4 * ln) + 1).toNatClampNeg) ((σ 14 (((4 * ln) + 1).toNatClampNeg)) + (σ 9 ln.toNatClampNeg))) (((4 * ln) + 2).toNatClampNeg)) + ((σ 7 ln.toNatClampNeg) - (σ 14 (((4 * ln) + 2).toNatClampNeg))))) (((4 * ln) + 3).toNatClampNeg)) + (if (σ 7 ln.toNatClampNeg) ≤ (0 : Int32) then (0 : Int32) else σ 13 ln.toNatClampNeg))) (σ 15) (σ 16) (upd (σ 17) ln.toNatClampNeg ((σ 17 ln.toNatClampNeg) + 1)) (upd (σ 18) (((60 * ln) + (σ 17 ln.toNatClampNeg)).toNatClampNeg) (σ 0 1)) (upd (σ 19) (((60 * ln) + (σ 17 ln.toNatClampNeg)).toNatClampNeg) (σ 7 ln.toNatClampNeg)) (upd (σ 20) (((60 * ln) + (σ 17 ln.toNatClampNeg)).toNatClampNeg) (σ 9 ln.toNatClampNeg)) (upd (σ 21) (((60 * ln) + (σ 17 ln.toNatClampNeg)).toNatClampNeg) ((σ 7 ln.toNatClampNeg) - (σ 14 (((4 * ln) + 2).toNatClampNeg)))) (upd (σ 22) (((60 * ln) + (σ 17 ln.toNatClampNeg)).toNatClampNeg) (if (σ 7 ln.toNatClampNeg) ≤ (0 : Int32) then (0 : Int32) else σ 13 ln.toNatClampNeg))) else (if kd < (σ 3 ln.toNatClampNeg) then (mkM (σ 0 0) (σ 0 1) (σ 0 2) (σ 0 3) (σ 0 4) (σ 0 5) (σ 1) (σ 2) (σ 3) (σ 4) (σ 5) (σ 6) (σ 7) (σ 8) (upd (σ 9) ln.toNatClampNeg 0) (σ 10) (σ 11) (σ 12) (σ 13) (upd (upd (upd (σ 14) (((4 * ln) + 1).toNatClampNeg) ((σ 14 (((4 * ln) + 1).toNatClampNeg)) + (σ 9 ln.toNatClampNeg))) (((4 * ln) + 2).toNatClampNeg) (((upd (σ 14) (((4 * ln) + 1).toNatClampNeg) ((σ 14 (((4 * ln) + 1).toNatClampNeg)) + (σ 9 ln.toNatClampNeg))) (((4 * ln) + 2).toNatClampNeg)) + (if (σ 8 ln.toNatClampNeg) ≤ (σ 9 ln.toNatClampNeg) then (0 : Int32) else (σ 8 ln.toNatClampNeg) - (σ 9 ln.toNatClampNeg)))) (((4 * ln) + 3).toNatClampNeg) (((upd (upd (σ 14) (((4 * ln) + 1).toNatClampNeg) ((σ 14 (((4 * ln) + 1).toNatClampNeg)) + (σ 9 ln.toNatClampNeg))) (((4 * ln) + 2).toNatClampNeg) (((upd (σ 14) (((4 * ln) + 1).toNatClampNeg) ((σ 14 (((4 * ln) + 1).toNatClampNeg)) + (σ 9 ln.toNatClampNeg))) (((4 * ln) + 2).toNatClampNeg)) + (if (σ 8 ln.toNatClampNeg) ≤ (σ 9 ln.toNatClampNeg) then (0 : Int32) else (σ 8 ln.toNatClampNeg) - (σ 9 ln.toNatClampNeg)))) (((4 * ln) + 3).toNatClampNeg)) + (if (σ 7 ln.toNatClampNeg) ≤ (0 : Int32) then (0 : Int32) else σ 13 ln.toNatClampNeg))) (σ 15) (σ 16) (upd (σ 17) ln.toNatClampNeg ((σ 17 ln.toNatClampNeg) + 1)) (upd (σ 18) (((60 * ln) + (σ 17 ln.toNatClampNeg)).toNatClampNeg) (σ 0 1)) (upd (σ 19) (((60 * ln) + (σ 17 ln.toNatClampNeg)).toNatClampNeg) (σ 7 ln.toNatClampNeg)) (upd (σ 20) (((60 * ln) + (σ 17 ln.toNatClampNeg)).toNatClampNeg) (σ 9 ln.toNatClampNeg)) (upd (σ 21) (((60 * ln) + (σ 17 ln.toNatClampNeg)).toNatClampNeg) (if (σ 8 ln.toNatClampNeg) ≤ (σ 9 ln.toNatClampNeg) then (0 : Int32) else (σ 8 ln.toNatClampNeg) - (σ 9 ln.toNatClampNeg))) (upd (σ 22) (((60 * ln) + (σ 17 ln.toNatClampNeg)).toNatClampNeg) (if (σ 7 ln.toNatClampNeg) ≤ (0 : Int32) then (0 : Int32) else σ 13 ln.toNatClampNeg))) else (mkM (σ 0 0) (σ 0 1) (σ 0 2) (σ 0 3) (σ 0 4) (σ 0 5) (σ 1) (σ 2) (σ 3) (σ 4) (σ 5) (σ 6) (σ 7) (σ 8) (upd (σ 9) ln.toNatClampNeg 0) (σ 10) (σ 11) (σ 12) (σ 13) (upd (upd (upd (σ 14) (((4 * ln) + 1).toNatClampNeg) ((σ 14 (((4 * ln) + 1).toNatClampNeg)) + (σ 9 ln.toNatClampNeg))) (((4 * ln) + 2).toNatClampNeg) (((upd (σ 14) (((4 * ln) + 1).toNatClampNeg) ((σ 14 (((4 * ln) + 1).toNatClampNeg)) + (σ 9 ln.toNatClampNeg))) (((4 * ln) + 2).toNatClampNeg)) + ((σ 7 ln.toNatClampNeg) - (σ 14 (((4 * ln) + 2).toNatClampNeg))))) (((4 * ln) + 3).toNatClampNeg) (((upd (upd (σ 14) (((4 * ln) + 1).toNatClampNeg) ((σ 14 (((4 * ln) + 1).toNatClampNeg)) + (σ 9 ln.toNatClampNeg))) (((4 * ln) + 2).toNatClampNeg) (((upd (σ 14) (((4 * ln) + 1).toNatClampNeg) ((σ 14 (((4 * ln) + 1).toNatClampNeg)) + (σ 9 ln.toNatClampNeg))) (((4 * ln) + 2).toNatClampNeg)) + ((σ 7 ln.toNatClampNeg) - (σ 14 (((4 * ln) + 2).toNatClampNeg))))) (((4 * ln) + 3).toNatClampNeg)) + (if (σ 7 ln.toNatClampNeg) ≤ (0 : Int32) then (0 : Int32) else σ 13 ln.toNatClampNeg))) (σ 15) (σ 16) (upd (σ 17) ln.toNatClampNeg ((σ 17 ln.toNatClampNeg) + 1)) (upd (σ 18) (((60 * ln) + (σ 17 ln.toNatClampNeg)).toNatClampNeg) (σ 0 1)) (upd (σ 19) (((60 * ln) + (σ 17 ln.toNatClampNeg)).toNatClampNeg) (σ 7 ln.toNatClampNeg)) (upd (σ 20) (((60 * ln) + (σ 17 ln.toNatClampNeg)).toNatClampNeg) (σ 9 ln.toNatClampNeg)) (upd (σ 21) (((60 * ln) + (σ 17 ln.toNatClampNeg)).toNatClampNeg) ((σ 7 ln.toNatClampNeg) - (σ 14 (((4 * ln) + 2).toNatClampNeg)))) (upd (σ 22) (((60 * ln) + (σ 17 ln.toNatClampNeg)).toNatClampNeg) (if (σ 7 ln.toNatClampNeg) ≤ (0 : Int32) then (0 : Int32) else σ 13 ln.toNatClampNeg))))
abbrev wgM_makeBill : List Cond := .code yM_makeBill cM_makeBill 8 none :: GW
abbrev rm_M_makeBill : Room := { frames := 0, cells := 0, slots := 0, locals := 0 }
set_option maxRecDepth 100000 in
set_option maxHeartbeats 4000000 in
theorem c_M_makeBill (l : Launch) (D : va_G) (G : Nat → ClassId) (b : Nat → Nat) (σ : KS) (u0 : Int32 × Int32 × Int32) (ln : Int32) (kd : Int32) (sz : Nat) (hln : vp_in ln 3) (hbl : 0 ≤ (σ 17 ln.toNatClampNeg).toInt ∧ (σ 17 ln.toNatClampNeg).toInt < 60) : Met l yM_makeBill wgM_makeBill rm_M_makeBill (kw_Pc D vwCl (gt G) [.ref (b 0), .int ln, .int kd] (mcells G b (scr σ u0)) sz) (kx_v D vwCl (gt G) (mcells G b (scr σ u0)) sz (fun u => mcells G b (scr (kM_makeBill σ ln kd) u))) 0 0 (va_A (mcells G b (scr σ u0)) sz) := by
  refine Met.ofW (cc := cM_makeBill) (maxL := 8) (ret := none) (by decide) rfl ?_
  intro p e s m args below meth c s₁ B hml hv
  have hx := B.exec
  have hb := B.bytes
  have hr := B.returns
  have hts := atoms_spec (ws := wgM_makeBill) B.pre
  have hg : ∀ w ∈ GW, w.before args s = true := fun w h => hts w (List.mem_cons_of_mem _ h)
  have hown : s.vm.findClass RM = some m.cls := findClass_of_methodNamed B.named
  have hlocks := B.notSynchronized
  obtain ⟨hv, hsz, hP, hK, hD0⟩ := hv
  subst hsz
  have hD := hD0.self (sz := s.heap.size)
  have hS : va_S (va_A (mcells G b (scr σ u0)) s.heap.size) s.heap s.heap [] := va_S.rf
  refine kw_entry [.ref (b 0), .int ln, .int kd] hv (Nat.le_of_ble_eq_true rfl) (fun ls hl => ?_)
  have hl : lv_has ls 8 [(0, .ref (b 0)), (1, .int ln), (2, .int kd)] := hl
  refine lv_bipush (v := 60) hx hb dM_makeBill_0 (by decide) ?_
  refine lv_iload_n hx hb dM_makeBill_2 rfl (lv_at hl 1 rfl) ?_
  refine lv_imul hx hb dM_makeBill_3 ?_
  refine lv_aload_n hx hb dM_makeBill_4 rfl (lv_at hl 0 rfl) ?_
  refine va_get (v := .ref (b 19)) hx hb hg hin_M hown hK hP 0 rfl rfl 19 (by decide) (hg _ gw_513) (fun _ h => h) rfl dM_makeBill_5 ?_
  refine lv_iload_n hx hb dM_makeBill_8 rfl (lv_at hl 1 rfl) ?_
  refine kw_iald (v := σ 17 ln.toNatClampNeg) (j := ln.toNatClampNeg) hx hb hK hP 17 0 rfl rfl hln rfl rfl dM_makeBill_9 ?_
  refine lv_iadd hx hb dM_makeBill_10 ?_
  refine lv_istore_n hx hb dM_makeBill_11 rfl hl (by decide) rfl (fun ls hl => ?_)
  have hl : lv_has ls 8 [(3, .int ((60 * ln) + (σ 17 ln.toNatClampNeg))), (0, .ref (b 0)), (1, .int ln), (2, .int kd)] := hl
  refine lv_aload_n hx hb dM_makeBill_12 rfl (lv_at hl 1 rfl) ?_
  refine va_get (v := .ref (b 11)) hx hb hg hin_M hown hK hP 0 rfl rfl 11 (by decide) (hg _ gw_505) (fun _ h => h) rfl dM_makeBill_13 ?_
  refine lv_iload_n hx hb dM_makeBill_16 rfl (lv_at hl 2 rfl) ?_
  refine kw_iald (v := σ 9 ln.toNatClampNeg) (j := ln.toNatClampNeg) hx hb hK hP 9 0 rfl rfl hln rfl rfl dM_makeBill_17 ?_
  refine lv_istore hx hb dM_makeBill_18 hl (by decide) rfl (fun ls hl => ?_)
  have hl : lv_has ls 8 [(4, .int (σ 9 ln.toNatClampNeg)), (3, .int ((60 * ln) + (σ 17 ln.toNatClampNeg))), (0, .ref (b 0)), (1, .int ln), (2, .int kd)] := hl
  refine lv_aload_n hx hb dM_makeBill_20 rfl (lv_at hl 2 rfl) ?_
  refine va_get (v := .ref (b 9)) hx hb hg hin_M hown hK hP 0 rfl rfl 9 (by decide) (hg _ gw_503) (fun _ h => h) rfl dM_makeBill_21 ?_
  refine lv_iload_n hx hb dM_makeBill_24 rfl (lv_at hl 3 rfl) ?_
  refine kw_iald (v := σ 7 ln.toNatClampNeg) (j := ln.toNatClampNeg) hx hb hK hP 7 0 rfl rfl hln rfl rfl dM_makeBill_25 ?_
  refine lv_aload_n hx hb dM_makeBill_26 rfl (lv_at hl 2 rfl) ?_
  refine va_get (v := .ref (b 16)) hx hb hg hin_M hown hK hP 0 rfl rfl 16 (by decide) (hg _ gw_510) (fun _ h => h) rfl dM_makeBill_27 ?_
  refine lv_iconst (v := 4) hx hb dM_makeBill_30 (by decide) ?_
  refine lv_iload_n hx hb dM_makeBill_31 rfl (lv_at hl 3 rfl) ?_
  refine lv_imul hx hb dM_makeBill_32 ?_
  refine lv_iconst (v := 2) hx hb dM_makeBill_33 (by decide) ?_
  refine lv_iadd hx hb dM_makeBill_34 ?_
  refine kw_iald (v := σ 14 (((4 * ln) + 2).toNatClampNeg)) (j := (((4 * ln) + 2).toNatClampNeg)) hx hb hK hP 14 0 rfl rfl (kx_ix4 hln (by decide)) rfl rfl dM_makeBill_35 ?_
  refine lv_isub hx hb dM_makeBill_36 ?_
  refine lv_istore hx hb dM_makeBill_37 hl (by decide) rfl (fun ls hl => ?_)
  have hl : lv_has ls 8 [(5, .int ((σ 7 ln.toNatClampNeg) - (σ 14 (((4 * ln) + 2).toNatClampNeg)))), (4, .int (σ 9 ln.toNatClampNeg)), (3, .int ((60 * ln) + (σ 17 ln.toNatClampNeg))), (0, .ref (b 0)), (1, .int ln), (2, .int kd)] := hl
  refine lv_aload_n hx hb dM_makeBill_39 rfl (lv_at hl 3 rfl) ?_
  refine va_get (v := .ref (b 10)) hx hb hg hin_M hown hK hP 0 rfl rfl 10 (by decide) (hg _ gw_504) (fun _ h => h) rfl dM_makeBill_40 ?_
  refine lv_iload_n hx hb dM_makeBill_43 rfl (lv_at hl 4 rfl) ?_
  refine kw_iald (v := σ 8 ln.toNatClampNeg) (j := ln.toNatClampNeg) hx hb hK hP 8 0 rfl rfl hln rfl rfl dM_makeBill_44 ?_
  refine lv_iload hx hb dM_makeBill_45 (lv_at hl 1 rfl) ?_
  refine kw_diamond (c9 := (σ 8 ln.toNatClampNeg) ≤ (σ 9 ln.toNatClampNeg)) (x := (0 : Int32)) (y := (σ 8 ln.toNatClampNeg) - (σ 9 ln.toNatClampNeg)) (g := fun z => F0 m 63 ls (.int z :: [])) (fun jt jf => ?_) (fun z_1 e_2 => ?_)
  · skip
    refine lv_icmp_le (tgt := 62) hx hb dM_makeBill_47 (by decide) (fun h3 => ?_) (fun h3 => ?_)
    · skip
      refine lv_iconst (v := 0) hx hb dM_makeBill_62 (by decide) ?_
      exact jt h3
    · skip
      refine lv_aload_n hx hb dM_makeBill_50 rfl (lv_at hl 3 rfl) ?_
      refine va_get (v := .ref (b 10)) hx hb hg hin_M hown hK hP 0 rfl rfl 10 (by decide) (hg _ gw_504) (fun _ h => h) rfl dM_makeBill_51 ?_
      refine lv_iload_n hx hb dM_makeBill_54 rfl (lv_at hl 4 rfl) ?_
      refine kw_iald (v := σ 8 ln.toNatClampNeg) (j := ln.toNatClampNeg) hx hb hK hP 8 0 rfl rfl hln rfl rfl dM_makeBill_55 ?_
      refine lv_iload hx hb dM_makeBill_56 (lv_at hl 1 rfl) ?_
      refine lv_isub hx hb dM_makeBill_58 ?_
      refine lv_goto (tgt := 63) hx hb dM_makeBill_59 (by decide) ?_
      exact jf h3
  refine lv_istore hx hb dM_makeBill_63 hl (by decide) rfl (fun ls hl => ?_)
  have hl : lv_has ls 8 [(6, .int z_1), (5, .int ((σ 7 ln.toNatClampNeg) - (σ 14 (((4 * ln) + 2).toNatClampNeg)))), (4, .int (σ 9 ln.toNatClampNeg)), (3, .int ((60 * ln) + (σ 17 ln.toNatClampNeg))), (0, .ref (b 0)), (1, .int ln), (2, .int kd)] := hl
  refine lv_iload hx hb dM_makeBill_65 (lv_at hl 0 rfl) ?_
  refine lv_iload hx hb dM_makeBill_67 (lv_at hl 1 rfl) ?_
  refine lv_icmp_gt (tgt := 82) hx hb dM_makeBill_69 (by decide) (fun h4 => ?_) (fun h4 => ?_)
  · skip
    refine lv_iload hx hb dM_makeBill_82 (lv_at hl 1 rfl) ?_
    refine lv_goto (tgt := 89) hx hb dM_makeBill_84 (by decide) ?_
    refine lv_istore hx hb dM_makeBill_89 hl (by decide) rfl (fun ls hl => ?_)
    have hl : lv_has ls 8 [(6, .int ((σ 7 ln.toNatClampNeg) - (σ 14 (((4 * ln) + 2).toNatClampNeg)))), (5, .int ((σ 7 ln.toNatClampNeg) - (σ 14 (((4 * ln) + 2).toNatClampNeg)))), (4, .int (σ 9 ln.toNatClampNeg)), (3, .int ((60 * ln) + (σ 17 ln.toNatClampNeg))), (0, .ref (b 0)), (1, .int ln), (2, .int kd)] := hl
    refine lv_aload_n hx hb dM_makeBill_91 rfl (lv_at hl 4 rfl) ?_
    refine va_get (v := .ref (b 9)) hx hb hg hin_M hown hK hP 0 rfl rfl 9 (by decide) (hg _ gw_503) (fun _ h => h) rfl dM_makeBill_92 ?_
    refine lv_iload_n hx hb dM_makeBill_95 rfl (lv_at hl 5 rfl) ?_
    refine kw_iald (v := σ 7 ln.toNatClampNeg) (j := ln.toNatClampNeg) hx hb hK hP 7 0 rfl rfl hln rfl rfl dM_makeBill_96 ?_
    refine kw_diamond (c9 := (σ 7 ln.toNatClampNeg) ≤ (0 : Int32)) (x := (0 : Int32)) (y := σ 13 ln.toNatClampNeg) (g := fun z => F0 m 110 ls (.int z :: [])) (fun jt jf => ?_) (fun z_5 e_6 => ?_)
    · skip
      refine lv_if_le (tgt := 109) hx hb dM_makeBill_97 (by decide) (fun h7 => ?_) (fun h7 => ?_)
      · skip
        refine lv_iconst (v := 0) hx hb dM_makeBill_109 (by decide) ?_
        exact jt h7
      · skip
        refine lv_aload_n hx hb dM_makeBill_100 rfl (lv_at hl 4 rfl) ?_
        refine va_get (v := .ref (b 15)) hx hb hg hin_M hown hK hP 0 rfl rfl 15 (by decide) (hg _ gw_509) (fun _ h => h) rfl dM_makeBill_101 ?_
        refine lv_iload_n hx hb dM_makeBill_104 rfl (lv_at hl 5 rfl) ?_
        refine kw_iald (v := σ 13 ln.toNatClampNeg) (j := ln.toNatClampNeg) hx hb hK hP 13 0 rfl rfl hln rfl rfl dM_makeBill_105 ?_
        refine lv_goto (tgt := 110) hx hb dM_makeBill_106 (by decide) ?_
        exact jf h7
    refine lv_istore hx hb dM_makeBill_110 hl (by decide) rfl (fun ls hl => ?_)
    have hl : lv_has ls 8 [(7, .int z_5), (6, .int ((σ 7 ln.toNatClampNeg) - (σ 14 (((4 * ln) + 2).toNatClampNeg)))), (5, .int ((σ 7 ln.toNatClampNeg) - (σ 14 (((4 * ln) + 2).toNatClampNeg)))), (4, .int (σ 9 ln.toNatClampNeg)), (3, .int ((60 * ln) + (σ 17 ln.toNatClampNeg))), (0, .ref (b 0)), (1, .int ln), (2, .int kd)] := hl
    refine lv_aload_n hx hb dM_makeBill_112 rfl (lv_at hl 5 rfl) ?_
    refine va_get (v := .ref (b 20)) hx hb hg hin_M hown hK hP 0 rfl rfl 20 (by decide) (hg _ gw_514) (fun _ h => h) rfl dM_makeBill_113 ?_
    refine lv_iload_n hx hb dM_makeBill_116 rfl (lv_at hl 4 rfl) ?_
    refine lv_aload_n hx hb dM_makeBill_117 rfl (lv_at hl 5 rfl) ?_
    refine va_get (v := .int (σ 0 1)) hx hb hg hin_M hown hK hP 0 rfl rfl 1 (by decide) (hg _ gw_495) (fun _ h => h) rfl dM_makeBill_118 ?_
    refine kw_iast (w' := lm G b (σ 0 0) (σ 0 1) (σ 0 2) u0.1 u0.2.1 u0.2.2 (σ 1) (σ 2) (σ 3) (σ 4) (σ 5) (σ 6) (σ 7) (σ 8) (σ 9) (σ 10) (σ 11) (σ 12) (σ 13) (σ 14) (σ 15) (σ 16) (σ 17) (upd (σ 18) (((60 * ln) + (σ 17 ln.toNatClampNeg)).toNatClampNeg) (σ 0 1)) (σ 19) (σ 20) (σ 21) (σ 22)) (j := (((60 * ln) + (σ 17 ln.toNatClampNeg)).toNatClampNeg)) hx hb hK hP hD hS 18 0 rfl rfl (kx_ix60 hln hbl) rfl dM_makeBill_121 rfl (fun H locs hP hD hS => ?_)
    refine lv_aload_n hx hb dM_makeBill_122 rfl (lv_at hl 5 rfl) ?_
    refine va_get (v := .ref (b 21)) hx hb hg hin_M hown hK hP 0 rfl rfl 21 (by decide) (hg _ gw_515) (fun _ h => h) rfl dM_makeBill_123 ?_
    refine lv_iload_n hx hb dM_makeBill_126 rfl (lv_at hl 4 rfl) ?_
    refine lv_aload_n hx hb dM_makeBill_127 rfl (lv_at hl 5 rfl) ?_
    refine va_get (v := .ref (b 9)) hx hb hg hin_M hown hK hP 0 rfl rfl 9 (by decide) (hg _ gw_503) (fun _ h => h) rfl dM_makeBill_128 ?_
    refine lv_iload_n hx hb dM_makeBill_131 rfl (lv_at hl 6 rfl) ?_
    refine kw_iald (v := σ 7 ln.toNatClampNeg) (j := ln.toNatClampNeg) hx hb hK hP 7 0 rfl rfl hln rfl rfl dM_makeBill_132 ?_
    refine kw_iast (w' := lm G b (σ 0 0) (σ 0 1) (σ 0 2) u0.1 u0.2.1 u0.2.2 (σ 1) (σ 2) (σ 3) (σ 4) (σ 5) (σ 6) (σ 7) (σ 8) (σ 9) (σ 10) (σ 11) (σ 12) (σ 13) (σ 14) (σ 15) (σ 16) (σ 17) (upd (σ 18) (((60 * ln) + (σ 17 ln.toNatClampNeg)).toNatClampNeg) (σ 0 1)) (upd (σ 19) (((60 * ln) + (σ 17 ln.toNatClampNeg)).toNatClampNeg) (σ 7 ln.toNatClampNeg)) (σ 20) (σ 21) (σ 22)) (j := (((60 * ln) + (σ 17 ln.toNatClampNeg)).toNatClampNeg)) hx hb hK hP hD hS 19 0 rfl rfl (kx_ix60 hln hbl) rfl dM_makeBill_133 rfl (fun H locs hP hD hS => ?_)
    refine lv_aload_n hx hb dM_makeBill_134 rfl (lv_at hl 5 rfl) ?_
    refine va_get (v := .ref (b 22)) hx hb hg hin_M hown hK hP 0 rfl rfl 22 (by decide) (hg _ gw_516) (fun _ h => h) rfl dM_makeBill_135 ?_
    refine lv_iload_n hx hb dM_makeBill_138 rfl (lv_at hl 4 rfl) ?_
    refine lv_iload hx hb dM_makeBill_139 (lv_at hl 3 rfl) ?_
    refine kw_iast (w' := lm G b (σ 0 0) (σ 0 1) (σ 0 2) u0.1 u0.2.1 u0.2.2 (σ 1) (σ 2) (σ 3) (σ 4) (σ 5) (σ 6) (σ 7) (σ 8) (σ 9) (σ 10) (σ 11) (σ 12) (σ 13) (σ 14) (σ 15) (σ 16) (σ 17) (upd (σ 18) (((60 * ln) + (σ 17 ln.toNatClampNeg)).toNatClampNeg) (σ 0 1)) (upd (σ 19) (((60 * ln) + (σ 17 ln.toNatClampNeg)).toNatClampNeg) (σ 7 ln.toNatClampNeg)) (upd (σ 20) (((60 * ln) + (σ 17 ln.toNatClampNeg)).toNatClampNeg) (σ 9 ln.toNatClampNeg)) (σ 21) (σ 22)) (j := (((60 * ln) + (σ 17 ln.toNatClampNeg)).toNatClampNeg)) hx hb hK hP hD hS 20 0 rfl rfl (kx_ix60 hln hbl) rfl dM_makeBill_141 rfl (fun H locs hP hD hS => ?_)
    refine lv_aload_n hx hb dM_makeBill_142 rfl (lv_at hl 5 rfl) ?_
    refine va_get (v := .ref (b 23)) hx hb hg hin_M hown hK hP 0 rfl rfl 23 (by decide) (hg _ gw_517) (fun _ h => h) rfl dM_makeBill_143 ?_
    refine lv_iload_n hx hb dM_makeBill_146 rfl (lv_at hl 4 rfl) ?_
    refine lv_iload hx hb dM_makeBill_147 (lv_at hl 1 rfl) ?_
    refine kw_iast (w' := lm G b (σ 0 0) (σ 0 1) (σ 0 2) u0.1 u0.2.1 u0.2.2 (σ 1) (σ 2) (σ 3) (σ 4) (σ 5) (σ 6) (σ 7) (σ 8) (σ 9) (σ 10) (σ 11) (σ 12) (σ 13) (σ 14) (σ 15) (σ 16) (σ 17) (upd (σ 18) (((60 * ln) + (σ 17 ln.toNatClampNeg)).toNatClampNeg) (σ 0 1)) (upd (σ 19) (((60 * ln) + (σ 17 ln.toNatClampNeg)).toNatClampNeg) (σ 7 ln.toNatClampNeg)) (upd (σ 20) (((60 * ln) + (σ 17 ln.toNatClampNeg)).toNatClampNeg) (σ 9 ln.toNatClampNeg)) (upd (σ 21) (((60 * ln) + (σ 17 ln.toNatClampNeg)).toNatClampNeg) ((σ 7 ln.toNatClampNeg) - (σ 14 (((4 * ln) + 2).toNatClampNeg)))) (σ 22)) (j := (((60 * ln) + (σ 17 ln.toNatClampNeg)).toNatClampNeg)) hx hb hK hP hD hS 21 0 rfl rfl (kx_ix60 hln hbl) rfl dM_makeBill_149 rfl (fun H locs hP hD hS => ?_)
    refine lv_aload_n hx hb dM_makeBill_150 rfl (lv_at hl 5 rfl) ?_
    refine va_get (v := .ref (b 24)) hx hb hg hin_M hown hK hP 0 rfl rfl 24 (by decide) (hg _ gw_518) (fun _ h => h) rfl dM_makeBill_151 ?_
    refine lv_iload_n hx hb dM_makeBill_154 rfl (lv_at hl 4 rfl) ?_
    refine lv_iload hx hb dM_makeBill_155 (lv_at hl 0 rfl) ?_
    refine kw_iast (w' := lm G b (σ 0 0) (σ 0 1) (σ 0 2) u0.1 u0.2.1 u0.2.2 (σ 1) (σ 2) (σ 3) (σ 4) (σ 5) (σ 6) (σ 7) (σ 8) (σ 9) (σ 10) (σ 11) (σ 12) (σ 13) (σ 14) (σ 15) (σ 16) (σ 17) (upd (σ 18) (((60 * ln) + (σ 17 ln.toNatClampNeg)).toNatClampNeg) (σ 0 1)) (upd (σ 19) (((60 * ln) + (σ 17 ln.toNatClampNeg)).toNatClampNeg) (σ 7 ln.toNatClampNeg)) (upd (σ 20) (((60 * ln) + (σ 17 ln.toNatClampNeg)).toNatClampNeg) (σ 9 ln.toNatClampNeg)) (upd (σ 21) (((60 * ln) + (σ 17 ln.toNatClampNeg)).toNatClampNeg) ((σ 7 ln.toNatClampNeg) - (σ 14 (((4 * ln) + 2).toNatClampNeg)))) (upd (σ 22) (((60 * ln) + (σ 17 ln.toNatClampNeg)).toNatClampNeg) z_5)) (j := (((60 * ln) + (σ 17 ln.toNatClampNeg)).toNatClampNeg)) hx hb hK hP hD hS 22 0 rfl rfl (kx_ix60 hln hbl) rfl dM_makeBill_157 rfl (fun H locs hP hD hS => ?_)
    refine lv_aload_n hx hb dM_makeBill_158 rfl (lv_at hl 5 rfl) ?_
    refine va_get (v := .ref (b 19)) hx hb hg hin_M hown hK hP 0 rfl rfl 19 (by decide) (hg _ gw_513) (fun _ h => h) rfl dM_makeBill_159 ?_
    refine lv_iload_n hx hb dM_makeBill_162 rfl (lv_at hl 6 rfl) ?_
    refine lv_aload_n hx hb dM_makeBill_163 rfl (lv_at hl 5 rfl) ?_
    refine va_get (v := .ref (b 19)) hx hb hg hin_M hown hK hP 0 rfl rfl 19 (by decide) (hg _ gw_513) (fun _ h => h) rfl dM_makeBill_164 ?_
    refine lv_iload_n hx hb dM_makeBill_167 rfl (lv_at hl 6 rfl) ?_
    refine kw_iald (v := σ 17 ln.toNatClampNeg) (j := ln.toNatClampNeg) hx hb hK hP 17 0 rfl rfl hln rfl rfl dM_makeBill_168 ?_
    refine lv_iconst (v := 1) hx hb dM_makeBill_169 (by decide) ?_
    refine lv_iadd hx hb dM_makeBill_170 ?_
    refine kw_iast (w' := lm G b (σ 0 0) (σ 0 1) (σ 0 2) u0.1 u0.2.1 u0.2.2 (σ 1) (σ 2) (σ 3) (σ 4) (σ 5) (σ 6) (σ 7) (σ 8) (σ 9) (σ 10) (σ 11) (σ 12) (σ 13) (σ 14) (σ 15) (σ 16) (upd (σ 17) ln.toNatClampNeg ((σ 17 ln.toNatClampNeg) + 1)) (upd (σ 18) (((60 * ln) + (σ 17 ln.toNatClampNeg)).toNatClampNeg) (σ 0 1)) (upd (σ 19) (((60 * ln) + (σ 17 ln.toNatClampNeg)).toNatClampNeg) (σ 7 ln.toNatClampNeg)) (upd (σ 20) (((60 * ln) + (σ 17 ln.toNatClampNeg)).toNatClampNeg) (σ 9 ln.toNatClampNeg)) (upd (σ 21) (((60 * ln) + (σ 17 ln.toNatClampNeg)).toNatClampNeg) ((σ 7 ln.toNatClampNeg) - (σ 14 (((4 * ln) + 2).toNatClampNeg)))) (upd (σ 22) (((60 * ln) + (σ 17 ln.toNatClampNeg)).toNatClampNeg) z_5)) (j := ln.toNatClampNeg) hx hb hK hP hD hS 17 0 rfl rfl hln rfl dM_makeBill_171 rfl (fun H locs hP hD hS => ?_)
    refine lv_aload_n hx hb dM_makeBill_172 rfl (lv_at hl 5 rfl) ?_
    refine va_get (v := .ref (b 11)) hx hb hg hin_M hown hK hP 0 rfl rfl 11 (by decide) (hg _ gw_505) (fun _ h => h) rfl dM_makeBill_173 ?_
    refine lv_iload_n hx hb dM_makeBill_176 rfl (lv_at hl 6 rfl) ?_
    refine lv_iconst (v := 0) hx hb dM_makeBill_177 (by decide) ?_
    refine kw_iast (w' := lm G b (σ 0 0) (σ 0 1) (σ 0 2) u0.1 u0.2.1 u0.2.2 (σ 1) (σ 2) (σ 3) (σ 4) (σ 5) (σ 6) (σ 7) (σ 8) (upd (σ 9) ln.toNatClampNeg 0) (σ 10) (σ 11) (σ 12) (σ 13) (σ 14) (σ 15) (σ 16) (upd (σ 17) ln.toNatClampNeg ((σ 17 ln.toNatClampNeg) + 1)) (upd (σ 18) (((60 * ln) + (σ 17 ln.toNatClampNeg)).toNatClampNeg) (σ 0 1)) (upd (σ 19) (((60 * ln) + (σ 17 ln.toNatClampNeg)).toNatClampNeg) (σ 7 ln.toNatClampNeg)) (upd (σ 20) (((60 * ln) + (σ 17 ln.toNatClampNeg)).toNatClampNeg) (σ 9 ln.toNatClampNeg)) (upd (σ 21) (((60 * ln) + (σ 17 ln.toNatClampNeg)).toNatClampNeg) ((σ 7 ln.toNatClampNeg) - (σ 14 (((4 * ln) + 2).toNatClampNeg)))) (upd (σ 22) (((60 * ln) + (σ 17 ln.toNatClampNeg)).toNatClampNeg) z_5)) (j := ln.toNatClampNeg) hx hb hK hP hD hS 9 0 rfl rfl hln rfl dM_makeBill_178 rfl (fun H locs hP hD hS => ?_)
    refine lv_aload_n hx hb dM_makeBill_179 rfl (lv_at hl 5 rfl) ?_
    refine va_get (v := .ref (b 16)) hx hb hg hin_M hown hK hP 0 rfl rfl 16 (by decide) (hg _ gw_510) (fun _ h => h) rfl dM_makeBill_180 ?_
    refine lv_iconst (v := 4) hx hb dM_makeBill_183 (by decide) ?_
    refine lv_iload_n hx hb dM_makeBill_184 rfl (lv_at hl 6 rfl) ?_
    refine lv_imul hx hb dM_makeBill_185 ?_
    refine lv_iconst (v := 1) hx hb dM_makeBill_186 (by decide) ?_
    refine lv_iadd hx hb dM_makeBill_187 ?_
    refine lv_aload_n hx hb dM_makeBill_188 rfl (lv_at hl 5 rfl) ?_
    refine va_get (v := .ref (b 16)) hx hb hg hin_M hown hK hP 0 rfl rfl 16 (by decide) (hg _ gw_510) (fun _ h => h) rfl dM_makeBill_189 ?_
    refine lv_iconst (v := 4) hx hb dM_makeBill_192 (by decide) ?_
    refine lv_iload_n hx hb dM_makeBill_193 rfl (lv_at hl 6 rfl) ?_
    refine lv_imul hx hb dM_makeBill_194 ?_
    refine lv_iconst (v := 1) hx hb dM_makeBill_195 (by decide) ?_
    refine lv_iadd hx hb dM_makeBill_196 ?_
    refine kw_iald (v := σ 14 (((4 * ln) + 1).toNatClampNeg)) (j := (((4 * ln) + 1).toNatClampNeg)) hx hb hK hP 14 0 rfl rfl (kx_ix4 hln (by decide)) rfl rfl dM_makeBill_197 ?_
    refine lv_iload hx hb dM_makeBill_198 (lv_at hl 3 rfl) ?_
    refine lv_iadd hx hb dM_makeBill_200 ?_
    refine kw_iast (w' := lm G b (σ 0 0) (σ 0 1) (σ 0 2) u0.1 u0.2.1 u0.2.2 (σ 1) (σ 2) (σ 3) (σ 4) (σ 5) (σ 6) (σ 7) (σ 8) (upd (σ 9) ln.toNatClampNeg 0) (σ 10) (σ 11) (σ 12) (σ 13) (upd (σ 14) (((4 * ln) + 1).toNatClampNeg) ((σ 14 (((4 * ln) + 1).toNatClampNeg)) + (σ 9 ln.toNatClampNeg))) (σ 15) (σ 16) (upd (σ 17) ln.toNatClampNeg ((σ 17 ln.toNatClampNeg) + 1)) (upd (σ 18) (((60 * ln) + (σ 17 ln.toNatClampNeg)).toNatClampNeg) (σ 0 1)) (upd (σ 19) (((60 * ln) + (σ 17 ln.toNatClampNeg)).toNatClampNeg) (σ 7 ln.toNatClampNeg)) (upd (σ 20) (((60 * ln) + (σ 17 ln.toNatClampNeg)).toNatClampNeg) (σ 9 ln.toNatClampNeg)) (upd (σ 21) (((60 * ln) + (σ 17 ln.toNatClampNeg)).toNatClampNeg) ((σ 7 ln.toNatClampNeg) - (σ 14 (((4 * ln) + 2).toNatClampNeg)))) (upd (σ 22) (((60 * ln) + (σ 17 ln.toNatClampNeg)).toNatClampNeg) z_5)) (j := (((4 * ln) + 1).toNatClampNeg)) hx hb hK hP hD hS 14 0 rfl rfl (kx_ix4 hln (by decide)) rfl dM_makeBill_201 rfl (fun H locs hP hD hS => ?_)
    refine lv_aload_n hx hb dM_makeBill_202 rfl (lv_at hl 5 rfl) ?_
    refine va_get (v := .ref (b 16)) hx hb hg hin_M hown hK hP 0 rfl rfl 16 (by decide) (hg _ gw_510) (fun _ h => h) rfl dM_makeBill_203 ?_
    refine lv_iconst (v := 4) hx hb dM_makeBill_206 (by decide) ?_
    refine lv_iload_n hx hb dM_makeBill_207 rfl (lv_at hl 6 rfl) ?_
    refine lv_imul hx hb dM_makeBill_208 ?_
    refine lv_iconst (v := 2) hx hb dM_makeBill_209 (by decide) ?_
    refine lv_iadd hx hb dM_makeBill_210 ?_
    refine lv_aload_n hx hb dM_makeBill_211 rfl (lv_at hl 5 rfl) ?_
    refine va_get (v := .ref (b 16)) hx hb hg hin_M hown hK hP 0 rfl rfl 16 (by decide) (hg _ gw_510) (fun _ h => h) rfl dM_makeBill_212 ?_
    refine lv_iconst (v := 4) hx hb dM_makeBill_215 (by decide) ?_
    refine lv_iload_n hx hb dM_makeBill_216 rfl (lv_at hl 6 rfl) ?_
    refine lv_imul hx hb dM_makeBill_217 ?_
    refine lv_iconst (v := 2) hx hb dM_makeBill_218 (by decide) ?_
    refine lv_iadd hx hb dM_makeBill_219 ?_
    refine kw_iald (v := (upd (σ 14) (((4 * ln) + 1).toNatClampNeg) ((σ 14 (((4 * ln) + 1).toNatClampNeg)) + (σ 9 ln.toNatClampNeg))) (((4 * ln) + 2).toNatClampNeg)) (j := (((4 * ln) + 2).toNatClampNeg)) hx hb hK hP 14 0 rfl rfl (kx_ix4 hln (by decide)) rfl rfl dM_makeBill_220 ?_
    refine lv_iload hx hb dM_makeBill_221 (lv_at hl 1 rfl) ?_
    refine lv_iadd hx hb dM_makeBill_223 ?_
    refine kw_iast (w' := lm G b (σ 0 0) (σ 0 1) (σ 0 2) u0.1 u0.2.1 u0.2.2 (σ 1) (σ 2) (σ 3) (σ 4) (σ 5) (σ 6) (σ 7) (σ 8) (upd (σ 9) ln.toNatClampNeg 0) (σ 10) (σ 11) (σ 12) (σ 13) (upd (upd (σ 14) (((4 * ln) + 1).toNatClampNeg) ((σ 14 (((4 * ln) + 1).toNatClampNeg)) + (σ 9 ln.toNatClampNeg))) (((4 * ln) + 2).toNatClampNeg) (((upd (σ 14) (((4 * ln) + 1).toNatClampNeg) ((σ 14 (((4 * ln) + 1).toNatClampNeg)) + (σ 9 ln.toNatClampNeg))) (((4 * ln) + 2).toNatClampNeg)) + ((σ 7 ln.toNatClampNeg) - (σ 14 (((4 * ln) + 2).toNatClampNeg))))) (σ 15) (σ 16) (upd (σ 17) ln.toNatClampNeg ((σ 17 ln.toNatClampNeg) + 1)) (upd (σ 18) (((60 * ln) + (σ 17 ln.toNatClampNeg)).toNatClampNeg) (σ 0 1)) (upd (σ 19) (((60 * ln) + (σ 17 ln.toNatClampNeg)).toNatClampNeg) (σ 7 ln.toNatClampNeg)) (upd (σ 20) (((60 * ln) + (σ 17 ln.toNatClampNeg)).toNatClampNeg) (σ 9 ln.toNatClampNeg)) (upd (σ 21) (((60 * ln) + (σ 17 ln.toNatClampNeg)).toNatClampNeg) ((σ 7 ln.toNatClampNeg) - (σ 14 (((4 * ln) + 2).toNatClampNeg)))) (upd (σ 22) (((60 * ln) + (σ 17 ln.toNatClampNeg)).toNatClampNeg) z_5)) (j := (((4 * ln) + 2).toNatClampNeg)) hx hb hK hP hD hS 14 0 rfl rfl (kx_ix4 hln (by decide)) rfl dM_makeBill_224 rfl (fun H locs hP hD hS => ?_)
    refine lv_aload_n hx hb dM_makeBill_225 rfl (lv_at hl 5 rfl) ?_
    refine va_get (v := .ref (b 16)) hx hb hg hin_M hown hK hP 0 rfl rfl 16 (by decide) (hg _ gw_510) (fun _ h => h) rfl dM_makeBill_226 ?_
    refine lv_iconst (v := 4) hx hb dM_makeBill_229 (by decide) ?_
    refine lv_iload_n hx hb dM_makeBill_230 rfl (lv_at hl 6 rfl) ?_
    refine lv_imul hx hb dM_makeBill_231 ?_
    refine lv_iconst (v := 3) hx hb dM_makeBill_232 (by decide) ?_
    refine lv_iadd hx hb dM_makeBill_233 ?_
    refine lv_aload_n hx hb dM_makeBill_234 rfl (lv_at hl 5 rfl) ?_
    refine va_get (v := .ref (b 16)) hx hb hg hin_M hown hK hP 0 rfl rfl 16 (by decide) (hg _ gw_510) (fun _ h => h) rfl dM_makeBill_235 ?_
    refine lv_iconst (v := 4) hx hb dM_makeBill_238 (by decide) ?_
    refine lv_iload_n hx hb dM_makeBill_239 rfl (lv_at hl 6 rfl) ?_
    refine lv_imul hx hb dM_makeBill_240 ?_
    refine lv_iconst (v := 3) hx hb dM_makeBill_241 (by decide) ?_
    refine lv_iadd hx hb dM_makeBill_242 ?_
    refine kw_iald (v := (upd (upd (σ 14) (((4 * ln) + 1).toNatClampNeg) ((σ 14 (((4 * ln) + 1).toNatClampNeg)) + (σ 9 ln.toNatClampNeg))) (((4 * ln) + 2).toNatClampNeg) (((upd (σ 14) (((4 * ln) + 1).toNatClampNeg) ((σ 14 (((4 * ln) + 1).toNatClampNeg)) + (σ 9 ln.toNatClampNeg))) (((4 * ln) + 2).toNatClampNeg)) + ((σ 7 ln.toNatClampNeg) - (σ 14 (((4 * ln) + 2).toNatClampNeg))))) (((4 * ln) + 3).toNatClampNeg)) (j := (((4 * ln) + 3).toNatClampNeg)) hx hb hK hP 14 0 rfl rfl (kx_ix4 hln (by decide)) rfl rfl dM_makeBill_243 ?_
    refine lv_iload hx hb dM_makeBill_244 (lv_at hl 0 rfl) ?_
    refine lv_iadd hx hb dM_makeBill_246 ?_
    refine kw_iast (w' := lm G b (σ 0 0) (σ 0 1) (σ 0 2) u0.1 u0.2.1 u0.2.2 (σ 1) (σ 2) (σ 3) (σ 4) (σ 5) (σ 6) (σ 7) (σ 8) (upd (σ 9) ln.toNatClampNeg 0) (σ 10) (σ 11) (σ 12) (σ 13) (upd (upd (upd (σ 14) (((4 * ln) + 1).toNatClampNeg) ((σ 14 (((4 * ln) + 1).toNatClampNeg)) + (σ 9 ln.toNatClampNeg))) (((4 * ln) + 2).toNatClampNeg) (((upd (σ 14) (((4 * ln) + 1).toNatClampNeg) ((σ 14 (((4 * ln) + 1).toNatClampNeg)) + (σ 9 ln.toNatClampNeg))) (((4 * ln) + 2).toNatClampNeg)) + ((σ 7 ln.toNatClampNeg) - (σ 14 (((4 * ln) + 2).toNatClampNeg))))) (((4 * ln) + 3).toNatClampNeg) (((upd (upd (σ 14) (((4 * ln) + 1).toNatClampNeg) ((σ 14 (((4 * ln) + 1).toNatClampNeg)) + (σ 9 ln.toNatClampNeg))) (((4 * ln) + 2).toNatClampNeg) (((upd (σ 14) (((4 * ln) + 1).toNatClampNeg) ((σ 14 (((4 * ln) + 1).toNatClampNeg)) + (σ 9 ln.toNatClampNeg))) (((4 * ln) + 2).toNatClampNeg)) + ((σ 7 ln.toNatClampNeg) - (σ 14 (((4 * ln) + 2).toNatClampNeg))))) (((4 * ln) + 3).toNatClampNeg)) + z_5)) (σ 15) (σ 16) (upd (σ 17) ln.toNatClampNeg ((σ 17 ln.toNatClampNeg) + 1)) (upd (σ 18) (((60 * ln) + (σ 17 ln.toNatClampNeg)).toNatClampNeg) (σ 0 1)) (upd (σ 19) (((60 * ln) + (σ 17 ln.toNatClampNeg)).toNatClampNeg) (σ 7 ln.toNatClampNeg)) (upd (σ 20) (((60 * ln) + (σ 17 ln.toNatClampNeg)).toNatClampNeg) (σ 9 ln.toNatClampNeg)) (upd (σ 21) (((60 * ln) + (σ 17 ln.toNatClampNeg)).toNatClampNeg) ((σ 7 ln.toNatClampNeg) - (σ 14 (((4 * ln) + 2).toNatClampNeg)))) (upd (σ 22) (((60 * ln) + (σ 17 ln.toNatClampNeg)).toNatClampNeg) z_5)) (j := (((4 * ln) + 3).toNatClampNeg)) hx hb hK hP hD hS 14 0 rfl rfl (kx_ix4 hln (by decide)) rfl dM_makeBill_247 rfl (fun H locs hP hD hS => ?_)
    have hk9 : kM_makeBill σ ln kd = mkM (σ 0 0) (σ 0 1) (σ 0 2) (σ 0 3) (σ 0 4) (σ 0 5) (σ 1) (σ 2) (σ 3) (σ 4) (σ 5) (σ 6) (σ 7) (σ 8) (upd (σ 9) ln.toNatClampNeg 0) (σ 10) (σ 11) (σ 12) (σ 13) (upd (upd (upd (σ 14) (((4 * ln) + 1).toNatClampNeg) ((σ 14 (((4 * ln) + 1).toNatClampNeg)) + (σ 9 ln.toNatClampNeg))) (((4 * ln) + 2).toNatClampNeg) (((upd (σ 14) (((4 * ln) + 1).toNatClampNeg) ((σ 14 (((4 * ln) + 1).toNatClampNeg)) + (σ 9 ln.toNatClampNeg))) (((4 * ln) + 2).toNatClampNeg)) + ((σ 7 ln.toNatClampNeg) - (σ 14 (((4 * ln) + 2).toNatClampNeg))))) (((4 * ln) + 3).toNatClampNeg) (((upd (upd (σ 14) (((4 * ln) + 1).toNatClampNeg) ((σ 14 (((4 * ln) + 1).toNatClampNeg)) + (σ 9 ln.toNatClampNeg))) (((4 * ln) + 2).toNatClampNeg) (((upd (σ 14) (((4 * ln) + 1).toNatClampNeg) ((σ 14 (((4 * ln) + 1).toNatClampNeg)) + (σ 9 ln.toNatClampNeg))) (((4 * ln) + 2).toNatClampNeg)) + ((σ 7 ln.toNatClampNeg) - (σ 14 (((4 * ln) + 2).toNatClampNeg))))) (((4 * ln) + 3).toNatClampNeg)) + z_5)) (σ 15) (σ 16) (upd (σ 17) ln.toNatClampNeg ((σ 17 ln.toNatClampNeg) + 1)) (upd (σ 18) (((60 * ln) + (σ 17 ln.toNatClampNeg)).toNatClampNeg) (σ 0 1)) (upd (σ 19) (((60 * ln) + (σ 17 ln.toNatClampNeg)).toNatClampNeg) (σ 7 ln.toNatClampNeg)) (upd (σ 20) (((60 * ln) + (σ 17 ln.toNatClampNeg)).toNatClampNeg) (σ 9 ln.toNatClampNeg)) (upd (σ 21) (((60 * ln) + (σ 17 ln.toNatClampNeg)).toNatClampNeg) ((σ 7 ln.toNatClampNeg) - (σ 14 (((4 * ln) + 2).toNatClampNeg)))) (upd (σ 22) (((60 * ln) + (σ 17 ln.toNatClampNeg)).toNatClampNeg) z_5) := by subst e_2 e_6; unfold kM_makeBill; rw [if_pos h4]
    exact kx_vret hx hb hr hlocks hK hP hD hS (u := (u0.1, u0.2.1, u0.2.2)) (by rw [hk9] <;> rfl) dM_makeBill_248
  · skip
    refine lv_iload_n hx hb dM_makeBill_72 rfl (lv_at hl 6 rfl) ?_
    refine lv_aload_n hx hb dM_makeBill_73 rfl (lv_at hl 4 rfl) ?_
    refine va_get (v := .ref (b 5)) hx hb hg hin_M hown hK hP 0 rfl rfl 5 (by decide) (hg _ gw_499) (fun _ h => h) rfl dM_makeBill_74 ?_
    refine lv_iload_n hx hb dM_makeBill_77 rfl (lv_at hl 5 rfl) ?_
    refine kw_iald (v := σ 3 ln.toNatClampNeg) (j := ln.toNatClampNeg) hx hb hK hP 3 0 rfl rfl hln rfl rfl dM_makeBill_78 ?_
    refine lv_icmp_lt (tgt := 87) hx hb dM_makeBill_79 (by decide) (fun h8 => ?_) (fun h8 => ?_)
    · skip
      refine lv_iload hx hb dM_makeBill_87 (lv_at hl 0 rfl) ?_
      refine lv_istore hx hb dM_makeBill_89 hl (by decide) rfl (fun ls hl => ?_)
      have hl : lv_has ls 8 [(6, .int z_1), (5, .int ((σ 7 ln.toNatClampNeg) - (σ 14 (((4 * ln) + 2).toNatClampNeg)))), (4, .int (σ 9 ln.toNatClampNeg)), (3, .int ((60 * ln) + (σ 17 ln.toNatClampNeg))), (0, .ref (b 0)), (1, .int ln), (2, .int kd)] := hl
      refine lv_aload_n hx hb dM_makeBill_91 rfl (lv_at hl 4 rfl) ?_
      refine va_get (v := .ref (b 9)) hx hb hg hin_M hown hK hP 0 rfl rfl 9 (by decide) (hg _ gw_503) (fun _ h => h) rfl dM_makeBill_92 ?_
      refine lv_iload_n hx hb dM_makeBill_95 rfl (lv_at hl 5 rfl) ?_
      refine kw_iald (v := σ 7 ln.toNatClampNeg) (j := ln.toNatClampNeg) hx hb hK hP 7 0 rfl rfl hln rfl rfl dM_makeBill_96 ?_
      refine kw_diamond (c9 := (σ 7 ln.toNatClampNeg) ≤ (0 : Int32)) (x := (0 : Int32)) (y := σ 13 ln.toNatClampNeg) (g := fun z => F0 m 110 ls (.int z :: [])) (fun jt jf => ?_) (fun z_9 e_10 => ?_)
      · skip
        refine lv_if_le (tgt := 109) hx hb dM_makeBill_97 (by decide) (fun h11 => ?_) (fun h11 => ?_)
        · skip
          refine lv_iconst (v := 0) hx hb dM_makeBill_109 (by decide) ?_
          exact jt h11
        · skip
          refine lv_aload_n hx hb dM_makeBill_100 rfl (lv_at hl 4 rfl) ?_
          refine va_get (v := .ref (b 15)) hx hb hg hin_M hown hK hP 0 rfl rfl 15 (by decide) (hg _ gw_509) (fun _ h => h) rfl dM_makeBill_101 ?_
          refine lv_iload_n hx hb dM_makeBill_104 rfl (lv_at hl 5 rfl) ?_
          refine kw_iald (v := σ 13 ln.toNatClampNeg) (j := ln.toNatClampNeg) hx hb hK hP 13 0 rfl rfl hln rfl rfl dM_makeBill_105 ?_
          refine lv_goto (tgt := 110) hx hb dM_makeBill_106 (by decide) ?_
          exact jf h11
      refine lv_istore hx hb dM_makeBill_110 hl (by decide) rfl (fun ls hl => ?_)
      have hl : lv_has ls 8 [(7, .int z_9), (6, .int z_1), (5, .int ((σ 7 ln.toNatClampNeg) - (σ 14 (((4 * ln) + 2).toNatClampNeg)))), (4, .int (σ 9 ln.toNatClampNeg)), (3, .int ((60 * ln) + (σ 17 ln.toNatClampNeg))), (0, .ref (b 0)), (1, .int ln), (2, .int kd)] := hl
      refine lv_aload_n hx hb dM_makeBill_112 rfl (lv_at hl 5 rfl) ?_
      refine va_get (v := .ref (b 20)) hx hb hg hin_M hown hK hP 0 rfl rfl 20 (by decide) (hg _ gw_514) (fun _ h => h) rfl dM_makeBill_113 ?_
      refine lv_iload_n hx hb dM_makeBill_116 rfl (lv_at hl 4 rfl) ?_
      refine lv_aload_n hx hb dM_makeBill_117 rfl (lv_at hl 5 rfl) ?_
      refine va_get (v := .int (σ 0 1)) hx hb hg hin_M hown hK hP 0 rfl rfl 1 (by decide) (hg _ gw_495) (fun _ h => h) rfl dM_makeBill_118 ?_
      refine kw_iast (w' := lm G b (σ 0 0) (σ 0 1) (σ 0 2) u0.1 u0.2.1 u0.2.2 (σ 1) (σ 2) (σ 3) (σ 4) (σ 5) (σ 6) (σ 7) (σ 8) (σ 9) (σ 10) (σ 11) (σ 12) (σ 13) (σ 14) (σ 15) (σ 16) (σ 17) (upd (σ 18) (((60 * ln) + (σ 17 ln.toNatClampNeg)).toNatClampNeg) (σ 0 1)) (σ 19) (σ 20) (σ 21) (σ 22)) (j := (((60 * ln) + (σ 17 ln.toNatClampNeg)).toNatClampNeg)) hx hb hK hP hD hS 18 0 rfl rfl (kx_ix60 hln hbl) rfl dM_makeBill_121 rfl (fun H locs hP hD hS => ?_)
      refine lv_aload_n hx hb dM_makeBill_122 rfl (lv_at hl 5 rfl) ?_
      refine va_get (v := .ref (b 21)) hx hb hg hin_M hown hK hP 0 rfl rfl 21 (by decide) (hg _ gw_515) (fun _ h => h) rfl dM_makeBill_123 ?_
      refine lv_iload_n hx hb dM_makeBill_126 rfl (lv_at hl 4 rfl) ?_
      refine lv_aload_n hx hb dM_makeBill_127 rfl (lv_at hl 5 rfl) ?_
      refine va_get (v := .ref (b 9)) hx hb hg hin_M hown hK hP 0 rfl rfl 9 (by decide) (hg _ gw_503) (fun _ h => h) rfl dM_makeBill_128 ?_
      refine lv_iload_n hx hb dM_makeBill_131 rfl (lv_at hl 6 rfl) ?_
      refine kw_iald (v := σ 7 ln.toNatClampNeg) (j := ln.toNatClampNeg) hx hb hK hP 7 0 rfl rfl hln rfl rfl dM_makeBill_132 ?_
      refine kw_iast (w' := lm G b (σ 0 0) (σ 0 1) (σ 0 2) u0.1 u0.2.1 u0.2.2 (σ 1) (σ 2) (σ 3) (σ 4) (σ 5) (σ 6) (σ 7) (σ 8) (σ 9) (σ 10) (σ 11) (σ 12) (σ 13) (σ 14) (σ 15) (σ 16) (σ 17) (upd (σ 18) (((60 * ln) + (σ 17 ln.toNatClampNeg)).toNatClampNeg) (σ 0 1)) (upd (σ 19) (((60 * ln) + (σ 17 ln.toNatClampNeg)).toNatClampNeg) (σ 7 ln.toNatClampNeg)) (σ 20) (σ 21) (σ 22)) (j := (((60 * ln) + (σ 17 ln.toNatClampNeg)).toNatClampNeg)) hx hb hK hP hD hS 19 0 rfl rfl (kx_ix60 hln hbl) rfl dM_makeBill_133 rfl (fun H locs hP hD hS => ?_)
      refine lv_aload_n hx hb dM_makeBill_134 rfl (lv_at hl 5 rfl) ?_
      refine va_get (v := .ref (b 22)) hx hb hg hin_M hown hK hP 0 rfl rfl 22 (by decide) (hg _ gw_516) (fun _ h => h) rfl dM_makeBill_135 ?_
      refine lv_iload_n hx hb dM_makeBill_138 rfl (lv_at hl 4 rfl) ?_
      refine lv_iload hx hb dM_makeBill_139 (lv_at hl 3 rfl) ?_
      refine kw_iast (w' := lm G b (σ 0 0) (σ 0 1) (σ 0 2) u0.1 u0.2.1 u0.2.2 (σ 1) (σ 2) (σ 3) (σ 4) (σ 5) (σ 6) (σ 7) (σ 8) (σ 9) (σ 10) (σ 11) (σ 12) (σ 13) (σ 14) (σ 15) (σ 16) (σ 17) (upd (σ 18) (((60 * ln) + (σ 17 ln.toNatClampNeg)).toNatClampNeg) (σ 0 1)) (upd (σ 19) (((60 * ln) + (σ 17 ln.toNatClampNeg)).toNatClampNeg) (σ 7 ln.toNatClampNeg)) (upd (σ 20) (((60 * ln) + (σ 17 ln.toNatClampNeg)).toNatClampNeg) (σ 9 ln.toNatClampNeg)) (σ 21) (σ 22)) (j := (((60 * ln) + (σ 17 ln.toNatClampNeg)).toNatClampNeg)) hx hb hK hP hD hS 20 0 rfl rfl (kx_ix60 hln hbl) rfl dM_makeBill_141 rfl (fun H locs hP hD hS => ?_)
      refine lv_aload_n hx hb dM_makeBill_142 rfl (lv_at hl 5 rfl) ?_
      refine va_get (v := .ref (b 23)) hx hb hg hin_M hown hK hP 0 rfl rfl 23 (by decide) (hg _ gw_517) (fun _ h => h) rfl dM_makeBill_143 ?_
      refine lv_iload_n hx hb dM_makeBill_146 rfl (lv_at hl 4 rfl) ?_
      refine lv_iload hx hb dM_makeBill_147 (lv_at hl 1 rfl) ?_
      refine kw_iast (w' := lm G b (σ 0 0) (σ 0 1) (σ 0 2) u0.1 u0.2.1 u0.2.2 (σ 1) (σ 2) (σ 3) (σ 4) (σ 5) (σ 6) (σ 7) (σ 8) (σ 9) (σ 10) (σ 11) (σ 12) (σ 13) (σ 14) (σ 15) (σ 16) (σ 17) (upd (σ 18) (((60 * ln) + (σ 17 ln.toNatClampNeg)).toNatClampNeg) (σ 0 1)) (upd (σ 19) (((60 * ln) + (σ 17 ln.toNatClampNeg)).toNatClampNeg) (σ 7 ln.toNatClampNeg)) (upd (σ 20) (((60 * ln) + (σ 17 ln.toNatClampNeg)).toNatClampNeg) (σ 9 ln.toNatClampNeg)) (upd (σ 21) (((60 * ln) + (σ 17 ln.toNatClampNeg)).toNatClampNeg) z_1) (σ 22)) (j := (((60 * ln) + (σ 17 ln.toNatClampNeg)).toNatClampNeg)) hx hb hK hP hD hS 21 0 rfl rfl (kx_ix60 hln hbl) rfl dM_makeBill_149 rfl (fun H locs hP hD hS => ?_)
      refine lv_aload_n hx hb dM_makeBill_150 rfl (lv_at hl 5 rfl) ?_
      refine va_get (v := .ref (b 24)) hx hb hg hin_M hown hK hP 0 rfl rfl 24 (by decide) (hg _ gw_518) (fun _ h => h) rfl dM_makeBill_151 ?_
      refine lv_iload_n hx hb dM_makeBill_154 rfl (lv_at hl 4 rfl) ?_
      refine lv_iload hx hb dM_makeBill_155 (lv_at hl 0 rfl) ?_
      refine kw_iast (w' := lm G b (σ 0 0) (σ 0 1) (σ 0 2) u0.1 u0.2.1 u0.2.2 (σ 1) (σ 2) (σ 3) (σ 4) (σ 5) (σ 6) (σ 7) (σ 8) (σ 9) (σ 10) (σ 11) (σ 12) (σ 13) (σ 14) (σ 15) (σ 16) (σ 17) (upd (σ 18) (((60 * ln) + (σ 17 ln.toNatClampNeg)).toNatClampNeg) (σ 0 1)) (upd (σ 19) (((60 * ln) + (σ 17 ln.toNatClampNeg)).toNatClampNeg) (σ 7 ln.toNatClampNeg)) (upd (σ 20) (((60 * ln) + (σ 17 ln.toNatClampNeg)).toNatClampNeg) (σ 9 ln.toNatClampNeg)) (upd (σ 21) (((60 * ln) + (σ 17 ln.toNatClampNeg)).toNatClampNeg) z_1) (upd (σ 22) (((60 * ln) + (σ 17 ln.toNatClampNeg)).toNatClampNeg) z_9)) (j := (((60 * ln) + (σ 17 ln.toNatClampNeg)).toNatClampNeg)) hx hb hK hP hD hS 22 0 rfl rfl (kx_ix60 hln hbl) rfl dM_makeBill_157 rfl (fun H locs hP hD hS => ?_)
      refine lv_aload_n hx hb dM_makeBill_158 rfl (lv_at hl 5 rfl) ?_
      refine va_get (v := .ref (b 19)) hx hb hg hin_M hown hK hP 0 rfl rfl 19 (by decide) (hg _ gw_513) (fun _ h => h) rfl dM_makeBill_159 ?_
      refine lv_iload_n hx hb dM_makeBill_162 rfl (lv_at hl 6 rfl) ?_
      refine lv_aload_n hx hb dM_makeBill_163 rfl (lv_at hl 5 rfl) ?_
      refine va_get (v := .ref (b 19)) hx hb hg hin_M hown hK hP 0 rfl rfl 19 (by decide) (hg _ gw_513) (fun _ h => h) rfl dM_makeBill_164 ?_
      refine lv_iload_n hx hb dM_makeBill_167 rfl (lv_at hl 6 rfl) ?_
      refine kw_iald (v := σ 17 ln.toNatClampNeg) (j := ln.toNatClampNeg) hx hb hK hP 17 0 rfl rfl hln rfl rfl dM_makeBill_168 ?_
      refine lv_iconst (v := 1) hx hb dM_makeBill_169 (by decide) ?_
      refine lv_iadd hx hb dM_makeBill_170 ?_
      refine kw_iast (w' := lm G b (σ 0 0) (σ 0 1) (σ 0 2) u0.1 u0.2.1 u0.2.2 (σ 1) (σ 2) (σ 3) (σ 4) (σ 5) (σ 6) (σ 7) (σ 8) (σ 9) (σ 10) (σ 11) (σ 12) (σ 13) (σ 14) (σ 15) (σ 16) (upd (σ 17) ln.toNatClampNeg ((σ 17 ln.toNatClampNeg) + 1)) (upd (σ 18) (((60 * ln) + (σ 17 ln.toNatClampNeg)).toNatClampNeg) (σ 0 1)) (upd (σ 19) (((60 * ln) + (σ 17 ln.toNatClampNeg)).toNatClampNeg) (σ 7 ln.toNatClampNeg)) (upd (σ 20) (((60 * ln) + (σ 17 ln.toNatClampNeg)).toNatClampNeg) (σ 9 ln.toNatClampNeg)) (upd (σ 21) (((60 * ln) + (σ 17 ln.toNatClampNeg)).toNatClampNeg) z_1) (upd (σ 22) (((60 * ln) + (σ 17 ln.toNatClampNeg)).toNatClampNeg) z_9)) (j := ln.toNatClampNeg) hx hb hK hP hD hS 17 0 rfl rfl hln rfl dM_makeBill_171 rfl (fun H locs hP hD hS => ?_)
      refine lv_aload_n hx hb dM_makeBill_172 rfl (lv_at hl 5 rfl) ?_
      refine va_get (v := .ref (b 11)) hx hb hg hin_M hown hK hP 0 rfl rfl 11 (by decide) (hg _ gw_505) (fun _ h => h) rfl dM_makeBill_173 ?_
      refine lv_iload_n hx hb dM_makeBill_176 rfl (lv_at hl 6 rfl) ?_
      refine lv_iconst (v := 0) hx hb dM_makeBill_177 (by decide) ?_
      refine kw_iast (w' := lm G b (σ 0 0) (σ 0 1) (σ 0 2) u0.1 u0.2.1 u0.2.2 (σ 1) (σ 2) (σ 3) (σ 4) (σ 5) (σ 6) (σ 7) (σ 8) (upd (σ 9) ln.toNatClampNeg 0) (σ 10) (σ 11) (σ 12) (σ 13) (σ 14) (σ 15) (σ 16) (upd (σ 17) ln.toNatClampNeg ((σ 17 ln.toNatClampNeg) + 1)) (upd (σ 18) (((60 * ln) + (σ 17 ln.toNatClampNeg)).toNatClampNeg) (σ 0 1)) (upd (σ 19) (((60 * ln) + (σ 17 ln.toNatClampNeg)).toNatClampNeg) (σ 7 ln.toNatClampNeg)) (upd (σ 20) (((60 * ln) + (σ 17 ln.toNatClampNeg)).toNatClampNeg) (σ 9 ln.toNatClampNeg)) (upd (σ 21) (((60 * ln) + (σ 17 ln.toNatClampNeg)).toNatClampNeg) z_1) (upd (σ 22) (((60 * ln) + (σ 17 ln.toNatClampNeg)).toNatClampNeg) z_9)) (j := ln.toNatClampNeg) hx hb hK hP hD hS 9 0 rfl rfl hln rfl dM_makeBill_178 rfl (fun H locs hP hD hS => ?_)
      refine lv_aload_n hx hb dM_makeBill_179 rfl (lv_at hl 5 rfl) ?_
      refine va_get (v := .ref (b 16)) hx hb hg hin_M hown hK hP 0 rfl rfl 16 (by decide) (hg _ gw_510) (fun _ h => h) rfl dM_makeBill_180 ?_
      refine lv_iconst (v := 4) hx hb dM_makeBill_183 (by decide) ?_
      refine lv_iload_n hx hb dM_makeBill_184 rfl (lv_at hl 6 rfl) ?_
      refine lv_imul hx hb dM_makeBill_185 ?_
      refine lv_iconst (v := 1) hx hb dM_makeBill_186 (by decide) ?_
      refine lv_iadd hx hb dM_makeBill_187 ?_
      refine lv_aload_n hx hb dM_makeBill_188 rfl (lv_at hl 5 rfl) ?_
      refine va_get (v := .ref (b 16)) hx hb hg hin_M hown hK hP 0 rfl rfl 16 (by decide) (hg _ gw_510) (fun _ h => h) rfl dM_makeBill_189 ?_
      refine lv_iconst (v := 4) hx hb dM_makeBill_192 (by decide) ?_
      refine lv_iload_n hx hb dM_makeBill_193 rfl (lv_at hl 6 rfl) ?_
      refine lv_imul hx hb dM_makeBill_194 ?_
      refine lv_iconst (v := 1) hx hb dM_makeBill_195 (by decide) ?_
      refine lv_iadd hx hb dM_makeBill_196 ?_
      refine kw_iald (v := σ 14 (((4 * ln) + 1).toNatClampNeg)) (j := (((4 * ln) + 1).toNatClampNeg)) hx hb hK hP 14 0 rfl rfl (kx_ix4 hln (by decide)) rfl rfl dM_makeBill_197 ?_
      refine lv_iload hx hb dM_makeBill_198 (lv_at hl 3 rfl) ?_
      refine lv_iadd hx hb dM_makeBill_200 ?_
      refine kw_iast (w' := lm G b (σ 0 0) (σ 0 1) (σ 0 2) u0.1 u0.2.1 u0.2.2 (σ 1) (σ 2) (σ 3) (σ 4) (σ 5) (σ 6) (σ 7) (σ 8) (upd (σ 9) ln.toNatClampNeg 0) (σ 10) (σ 11) (σ 12) (σ 13) (upd (σ 14) (((4 * ln) + 1).toNatClampNeg) ((σ 14 (((4 * ln) + 1).toNatClampNeg)) + (σ 9 ln.toNatClampNeg))) (σ 15) (σ 16) (upd (σ 17) ln.toNatClampNeg ((σ 17 ln.toNatClampNeg) + 1)) (upd (σ 18) (((60 * ln) + (σ 17 ln.toNatClampNeg)).toNatClampNeg) (σ 0 1)) (upd (σ 19) (((60 * ln) + (σ 17 ln.toNatClampNeg)).toNatClampNeg) (σ 7 ln.toNatClampNeg)) (upd (σ 20) (((60 * ln) + (σ 17 ln.toNatClampNeg)).toNatClampNeg) (σ 9 ln.toNatClampNeg)) (upd (σ 21) (((60 * ln) + (σ 17 ln.toNatClampNeg)).toNatClampNeg) z_1) (upd (σ 22) (((60 * ln) + (σ 17 ln.toNatClampNeg)).toNatClampNeg) z_9)) (j := (((4 * ln) + 1).toNatClampNeg)) hx hb hK hP hD hS 14 0 rfl rfl (kx_ix4 hln (by decide)) rfl dM_makeBill_201 rfl (fun H locs hP hD hS => ?_)
      refine lv_aload_n hx hb dM_makeBill_202 rfl (lv_at hl 5 rfl) ?_
      refine va_get (v := .ref (b 16)) hx hb hg hin_M hown hK hP 0 rfl rfl 16 (by decide) (hg _ gw_510) (fun _ h => h) rfl dM_makeBill_203 ?_
      refine lv_iconst (v := 4) hx hb dM_makeBill_206 (by decide) ?_
      refine lv_iload_n hx hb dM_makeBill_207 rfl (lv_at hl 6 rfl) ?_
      refine lv_imul hx hb dM_makeBill_208 ?_
      refine lv_iconst (v := 2) hx hb dM_makeBill_209 (by decide) ?_
      refine lv_iadd hx hb dM_makeBill_210 ?_
      refine lv_aload_n hx hb dM_makeBill_211 rfl (lv_at hl 5 rfl) ?_
      refine va_get (v := .ref (b 16)) hx hb hg hin_M hown hK hP 0 rfl rfl 16 (by decide) (hg _ gw_510) (fun _ h => h) rfl dM_makeBill_212 ?_
      refine lv_iconst (v := 4) hx hb dM_makeBill_215 (by decide) ?_
      refine lv_iload_n hx hb dM_makeBill_216 rfl (lv_at hl 6 rfl) ?_
      refine lv_imul hx hb dM_makeBill_217 ?_
      refine lv_iconst (v := 2) hx hb dM_makeBill_218 (by decide) ?_
      refine lv_iadd hx hb dM_makeBill_219 ?_
      refine kw_iald (v := (upd (σ 14) (((4 * ln) + 1).toNatClampNeg) ((σ 14 (((4 * ln) + 1).toNatClampNeg)) + (σ 9 ln.toNatClampNeg))) (((4 * ln) + 2).toNatClampNeg)) (j := (((4 * ln) + 2).toNatClampNeg)) hx hb hK hP 14 0 rfl rfl (kx_ix4 hln (by decide)) rfl rfl dM_makeBill_220 ?_
      refine lv_iload hx hb dM_makeBill_221 (lv_at hl 1 rfl) ?_
      refine lv_iadd hx hb dM_makeBill_223 ?_
      refine kw_iast (w' := lm G b (σ 0 0) (σ 0 1) (σ 0 2) u0.1 u0.2.1 u0.2.2 (σ 1) (σ 2) (σ 3) (σ 4) (σ 5) (σ 6) (σ 7) (σ 8) (upd (σ 9) ln.toNatClampNeg 0) (σ 10) (σ 11) (σ 12) (σ 13) (upd (upd (σ 14) (((4 * ln) + 1).toNatClampNeg) ((σ 14 (((4 * ln) + 1).toNatClampNeg)) + (σ 9 ln.toNatClampNeg))) (((4 * ln) + 2).toNatClampNeg) (((upd (σ 14) (((4 * ln) + 1).toNatClampNeg) ((σ 14 (((4 * ln) + 1).toNatClampNeg)) + (σ 9 ln.toNatClampNeg))) (((4 * ln) + 2).toNatClampNeg)) + z_1)) (σ 15) (σ 16) (upd (σ 17) ln.toNatClampNeg ((σ 17 ln.toNatClampNeg) + 1)) (upd (σ 18) (((60 * ln) + (σ 17 ln.toNatClampNeg)).toNatClampNeg) (σ 0 1)) (upd (σ 19) (((60 * ln) + (σ 17 ln.toNatClampNeg)).toNatClampNeg) (σ 7 ln.toNatClampNeg)) (upd (σ 20) (((60 * ln) + (σ 17 ln.toNatClampNeg)).toNatClampNeg) (σ 9 ln.toNatClampNeg)) (upd (σ 21) (((60 * ln) + (σ 17 ln.toNatClampNeg)).toNatClampNeg) z_1) (upd (σ 22) (((60 * ln) + (σ 17 ln.toNatClampNeg)).toNatClampNeg) z_9)) (j := (((4 * ln) + 2).toNatClampNeg)) hx hb hK hP hD hS 14 0 rfl rfl (kx_ix4 hln (by decide)) rfl dM_makeBill_224 rfl (fun H locs hP hD hS => ?_)
      refine lv_aload_n hx hb dM_makeBill_225 rfl (lv_at hl 5 rfl) ?_
      refine va_get (v := .ref (b 16)) hx hb hg hin_M hown hK hP 0 rfl rfl 16 (by decide) (hg _ gw_510) (fun _ h => h) rfl dM_makeBill_226 ?_
      refine lv_iconst (v := 4) hx hb dM_makeBill_229 (by decide) ?_
      refine lv_iload_n hx hb dM_makeBill_230 rfl (lv_at hl 6 rfl) ?_
      refine lv_imul hx hb dM_makeBill_231 ?_
      refine lv_iconst (v := 3) hx hb dM_makeBill_232 (by decide) ?_
      refine lv_iadd hx hb dM_makeBill_233 ?_
      refine lv_aload_n hx hb dM_makeBill_234 rfl (lv_at hl 5 rfl) ?_
      refine va_get (v := .ref (b 16)) hx hb hg hin_M hown hK hP 0 rfl rfl 16 (by decide) (hg _ gw_510) (fun _ h => h) rfl dM_makeBill_235 ?_
      refine lv_iconst (v := 4) hx hb dM_makeBill_238 (by decide) ?_
      refine lv_iload_n hx hb dM_makeBill_239 rfl (lv_at hl 6 rfl) ?_
      refine lv_imul hx hb dM_makeBill_240 ?_
      refine lv_iconst (v := 3) hx hb dM_makeBill_241 (by decide) ?_
      refine lv_iadd hx hb dM_makeBill_242 ?_
      refine kw_iald (v := (upd (upd (σ 14) (((4 * ln) + 1).toNatClampNeg) ((σ 14 (((4 * ln) + 1).toNatClampNeg)) + (σ 9 ln.toNatClampNeg))) (((4 * ln) + 2).toNatClampNeg) (((upd (σ 14) (((4 * ln) + 1).toNatClampNeg) ((σ 14 (((4 * ln) + 1).toNatClampNeg)) + (σ 9 ln.toNatClampNeg))) (((4 * ln) + 2).toNatClampNeg)) + z_1)) (((4 * ln) + 3).toNatClampNeg)) (j := (((4 * ln) + 3).toNatClampNeg)) hx hb hK hP 14 0 rfl rfl (kx_ix4 hln (by decide)) rfl rfl dM_makeBill_243 ?_
      refine lv_iload hx hb dM_makeBill_244 (lv_at hl 0 rfl) ?_
      refine lv_iadd hx hb dM_makeBill_246 ?_
      refine kw_iast (w' := lm G b (σ 0 0) (σ 0 1) (σ 0 2) u0.1 u0.2.1 u0.2.2 (σ 1) (σ 2) (σ 3) (σ 4) (σ 5) (σ 6) (σ 7) (σ 8) (upd (σ 9) ln.toNatClampNeg 0) (σ 10) (σ 11) (σ 12) (σ 13) (upd (upd (upd (σ 14) (((4 * ln) + 1).toNatClampNeg) ((σ 14 (((4 * ln) + 1).toNatClampNeg)) + (σ 9 ln.toNatClampNeg))) (((4 * ln) + 2).toNatClampNeg) (((upd (σ 14) (((4 * ln) + 1).toNatClampNeg) ((σ 14 (((4 * ln) + 1).toNatClampNeg)) + (σ 9 ln.toNatClampNeg))) (((4 * ln) + 2).toNatClampNeg)) + z_1)) (((4 * ln) + 3).toNatClampNeg) (((upd (upd (σ 14) (((4 * ln) + 1).toNatClampNeg) ((σ 14 (((4 * ln) + 1).toNatClampNeg)) + (σ 9 ln.toNatClampNeg))) (((4 * ln) + 2).toNatClampNeg) (((upd (σ 14) (((4 * ln) + 1).toNatClampNeg) ((σ 14 (((4 * ln) + 1).toNatClampNeg)) + (σ 9 ln.toNatClampNeg))) (((4 * ln) + 2).toNatClampNeg)) + z_1)) (((4 * ln) + 3).toNatClampNeg)) + z_9)) (σ 15) (σ 16) (upd (σ 17) ln.toNatClampNeg ((σ 17 ln.toNatClampNeg) + 1)) (upd (σ 18) (((60 * ln) + (σ 17 ln.toNatClampNeg)).toNatClampNeg) (σ 0 1)) (upd (σ 19) (((60 * ln) + (σ 17 ln.toNatClampNeg)).toNatClampNeg) (σ 7 ln.toNatClampNeg)) (upd (σ 20) (((60 * ln) + (σ 17 ln.toNatClampNeg)).toNatClampNeg) (σ 9 ln.toNatClampNeg)) (upd (σ 21) (((60 * ln) + (σ 17 ln.toNatClampNeg)).toNatClampNeg) z_1) (upd (σ 22) (((60 * ln) + (σ 17 ln.toNatClampNeg)).toNatClampNeg) z_9)) (j := (((4 * ln) + 3).toNatClampNeg)) hx hb hK hP hD hS 14 0 rfl rfl (kx_ix4 hln (by decide)) rfl dM_makeBill_247 rfl (fun H locs hP hD hS => ?_)
      have hk9 : kM_makeBill σ ln kd = mkM (σ 0 0) (σ 0 1) (σ 0 2) (σ 0 3) (σ 0 4) (σ 0 5) (σ 1) (σ 2) (σ 3) (σ 4) (σ 5) (σ 6) (σ 7) (σ 8) (upd (σ 9) ln.toNatClampNeg 0) (σ 10) (σ 11) (σ 12) (σ 13) (upd (upd (upd (σ 14) (((4 * ln) + 1).toNatClampNeg) ((σ 14 (((4 * ln) + 1).toNatClampNeg)) + (σ 9 ln.toNatClampNeg))) (((4 * ln) + 2).toNatClampNeg) (((upd (σ 14) (((4 * ln) + 1).toNatClampNeg) ((σ 14 (((4 * ln) + 1).toNatClampNeg)) + (σ 9 ln.toNatClampNeg))) (((4 * ln) + 2).toNatClampNeg)) + z_1)) (((4 * ln) + 3).toNatClampNeg) (((upd (upd (σ 14) (((4 * ln) + 1).toNatClampNeg) ((σ 14 (((4 * ln) + 1).toNatClampNeg)) + (σ 9 ln.toNatClampNeg))) (((4 * ln) + 2).toNatClampNeg) (((upd (σ 14) (((4 * ln) + 1).toNatClampNeg) ((σ 14 (((4 * ln) + 1).toNatClampNeg)) + (σ 9 ln.toNatClampNeg))) (((4 * ln) + 2).toNatClampNeg)) + z_1)) (((4 * ln) + 3).toNatClampNeg)) + z_9)) (σ 15) (σ 16) (upd (σ 17) ln.toNatClampNeg ((σ 17 ln.toNatClampNeg) + 1)) (upd (σ 18) (((60 * ln) + (σ 17 ln.toNatClampNeg)).toNatClampNeg) (σ 0 1)) (upd (σ 19) (((60 * ln) + (σ 17 ln.toNatClampNeg)).toNatClampNeg) (σ 7 ln.toNatClampNeg)) (upd (σ 20) (((60 * ln) + (σ 17 ln.toNatClampNeg)).toNatClampNeg) (σ 9 ln.toNatClampNeg)) (upd (σ 21) (((60 * ln) + (σ 17 ln.toNatClampNeg)).toNatClampNeg) z_1) (upd (σ 22) (((60 * ln) + (σ 17 ln.toNatClampNeg)).toNatClampNeg) z_9) := by subst e_2 e_10; unfold kM_makeBill; rw [if_neg h4, if_pos h8]
      exact kx_vret hx hb hr hlocks hK hP hD hS (u := (u0.1, u0.2.1, u0.2.2)) (by rw [hk9] <;> rfl) dM_makeBill_248
    · skip
      refine lv_iload hx hb dM_makeBill_82 (lv_at hl 1 rfl) ?_
      refine lv_goto (tgt := 89) hx hb dM_makeBill_84 (by decide) ?_
      refine lv_istore hx hb dM_makeBill_89 hl (by decide) rfl (fun ls hl => ?_)
      have hl : lv_has ls 8 [(6, .int ((σ 7 ln.toNatClampNeg) - (σ 14 (((4 * ln) + 2).toNatClampNeg)))), (5, .int ((σ 7 ln.toNatClampNeg) - (σ 14 (((4 * ln) + 2).toNatClampNeg)))), (4, .int (σ 9 ln.toNatClampNeg)), (3, .int ((60 * ln) + (σ 17 ln.toNatClampNeg))), (0, .ref (b 0)), (1, .int ln), (2, .int kd)] := hl
      refine lv_aload_n hx hb dM_makeBill_91 rfl (lv_at hl 4 rfl) ?_
      refine va_get (v := .ref (b 9)) hx hb hg hin_M hown hK hP 0 rfl rfl 9 (by decide) (hg _ gw_503) (fun _ h => h) rfl dM_makeBill_92 ?_
      refine lv_iload_n hx hb dM_makeBill_95 rfl (lv_at hl 5 rfl) ?_
      refine kw_iald (v := σ 7 ln.toNatClampNeg) (j := ln.toNatClampNeg) hx hb hK hP 7 0 rfl rfl hln rfl rfl dM_makeBill_96 ?_
      refine kw_diamond (c9 := (σ 7 ln.toNatClampNeg) ≤ (0 : Int32)) (x := (0 : Int32)) (y := σ 13 ln.toNatClampNeg) (g := fun z => F0 m 110 ls (.int z :: [])) (fun jt jf => ?_) (fun z_12 e_13 => ?_)
      · skip
        refine lv_if_le (tgt := 109) hx hb dM_makeBill_97 (by decide) (fun h14 => ?_) (fun h14 => ?_)
        · skip
          refine lv_iconst (v := 0) hx hb dM_makeBill_109 (by decide) ?_
          exact jt h14
        · skip
          refine lv_aload_n hx hb dM_makeBill_100 rfl (lv_at hl 4 rfl) ?_
          refine va_get (v := .ref (b 15)) hx hb hg hin_M hown hK hP 0 rfl rfl 15 (by decide) (hg _ gw_509) (fun _ h => h) rfl dM_makeBill_101 ?_
          refine lv_iload_n hx hb dM_makeBill_104 rfl (lv_at hl 5 rfl) ?_
          refine kw_iald (v := σ 13 ln.toNatClampNeg) (j := ln.toNatClampNeg) hx hb hK hP 13 0 rfl rfl hln rfl rfl dM_makeBill_105 ?_
          refine lv_goto (tgt := 110) hx hb dM_makeBill_106 (by decide) ?_
          exact jf h14
      refine lv_istore hx hb dM_makeBill_110 hl (by decide) rfl (fun ls hl => ?_)
      have hl : lv_has ls 8 [(7, .int z_12), (6, .int ((σ 7 ln.toNatClampNeg) - (σ 14 (((4 * ln) + 2).toNatClampNeg)))), (5, .int ((σ 7 ln.toNatClampNeg) - (σ 14 (((4 * ln) + 2).toNatClampNeg)))), (4, .int (σ 9 ln.toNatClampNeg)), (3, .int ((60 * ln) + (σ 17 ln.toNatClampNeg))), (0, .ref (b 0)), (1, .int ln), (2, .int kd)] := hl
      refine lv_aload_n hx hb dM_makeBill_112 rfl (lv_at hl 5 rfl) ?_
      refine va_get (v := .ref (b 20)) hx hb hg hin_M hown hK hP 0 rfl rfl 20 (by decide) (hg _ gw_514) (fun _ h => h) rfl dM_makeBill_113 ?_
      refine lv_iload_n hx hb dM_makeBill_116 rfl (lv_at hl 4 rfl) ?_
      refine lv_aload_n hx hb dM_makeBill_117 rfl (lv_at hl 5 rfl) ?_
      refine va_get (v := .int (σ 0 1)) hx hb hg hin_M hown hK hP 0 rfl rfl 1 (by decide) (hg _ gw_495) (fun _ h => h) rfl dM_makeBill_118 ?_
      refine kw_iast (w' := lm G b (σ 0 0) (σ 0 1) (σ 0 2) u0.1 u0.2.1 u0.2.2 (σ 1) (σ 2) (σ 3) (σ 4) (σ 5) (σ 6) (σ 7) (σ 8) (σ 9) (σ 10) (σ 11) (σ 12) (σ 13) (σ 14) (σ 15) (σ 16) (σ 17) (upd (σ 18) (((60 * ln) + (σ 17 ln.toNatClampNeg)).toNatClampNeg) (σ 0 1)) (σ 19) (σ 20) (σ 21) (σ 22)) (j := (((60 * ln) + (σ 17 ln.toNatClampNeg)).toNatClampNeg)) hx hb hK hP hD hS 18 0 rfl rfl (kx_ix60 hln hbl) rfl dM_makeBill_121 rfl (fun H locs hP hD hS => ?_)
      refine lv_aload_n hx hb dM_makeBill_122 rfl (lv_at hl 5 rfl) ?_
      refine va_get (v := .ref (b 21)) hx hb hg hin_M hown hK hP 0 rfl rfl 21 (by decide) (hg _ gw_515) (fun _ h => h) rfl dM_makeBill_123 ?_
      refine lv_iload_n hx hb dM_makeBill_126 rfl (lv_at hl 4 rfl) ?_
      refine lv_aload_n hx hb dM_makeBill_127 rfl (lv_at hl 5 rfl) ?_
      refine va_get (v := .ref (b 9)) hx hb hg hin_M hown hK hP 0 rfl rfl 9 (by decide) (hg _ gw_503) (fun _ h => h) rfl dM_makeBill_128 ?_
      refine lv_iload_n hx hb dM_makeBill_131 rfl (lv_at hl 6 rfl) ?_
      refine kw_iald (v := σ 7 ln.toNatClampNeg) (j := ln.toNatClampNeg) hx hb hK hP 7 0 rfl rfl hln rfl rfl dM_makeBill_132 ?_
      refine kw_iast (w' := lm G b (σ 0 0) (σ 0 1) (σ 0 2) u0.1 u0.2.1 u0.2.2 (σ 1) (σ 2) (σ 3) (σ 4) (σ 5) (σ 6) (σ 7) (σ 8) (σ 9) (σ 10) (σ 11) (σ 12) (σ 13) (σ 14) (σ 15) (σ 16) (σ 17) (upd (σ 18) (((60 * ln) + (σ 17 ln.toNatClampNeg)).toNatClampNeg) (σ 0 1)) (upd (σ 19) (((60 * ln) + (σ 17 ln.toNatClampNeg)).toNatClampNeg) (σ 7 ln.toNatClampNeg)) (σ 20) (σ 21) (σ 22)) (j := (((60 * ln) + (σ 17 ln.toNatClampNeg)).toNatClampNeg)) hx hb hK hP hD hS 19 0 rfl rfl (kx_ix60 hln hbl) rfl dM_makeBill_133 rfl (fun H locs hP hD hS => ?_)
      refine lv_aload_n hx hb dM_makeBill_134 rfl (lv_at hl 5 rfl) ?_
      refine va_get (v := .ref (b 22)) hx hb hg hin_M hown hK hP 0 rfl rfl 22 (by decide) (hg _ gw_516) (fun _ h => h) rfl dM_makeBill_135 ?_
      refine lv_iload_n hx hb dM_makeBill_138 rfl (lv_at hl 4 rfl) ?_
      refine lv_iload hx hb dM_makeBill_139 (lv_at hl 3 rfl) ?_
      refine kw_iast (w' := lm G b (σ 0 0) (σ 0 1) (σ 0 2) u0.1 u0.2.1 u0.2.2 (σ 1) (σ 2) (σ 3) (σ 4) (σ 5) (σ 6) (σ 7) (σ 8) (σ 9) (σ 10) (σ 11) (σ 12) (σ 13) (σ 14) (σ 15) (σ 16) (σ 17) (upd (σ 18) (((60 * ln) + (σ 17 ln.toNatClampNeg)).toNatClampNeg) (σ 0 1)) (upd (σ 19) (((60 * ln) + (σ 17 ln.toNatClampNeg)).toNatClampNeg) (σ 7 ln.toNatClampNeg)) (upd (σ 20) (((60 * ln) + (σ 17 ln.toNatClampNeg)).toNatClampNeg) (σ 9 ln.toNatClampNeg)) (σ 21) (σ 22)) (j := (((60 * ln) + (σ 17 ln.toNatClampNeg)).toNatClampNeg)) hx hb hK hP hD hS 20 0 rfl rfl (kx_ix60 hln hbl) rfl dM_makeBill_141 rfl (fun H locs hP hD hS => ?_)
      refine lv_aload_n hx hb dM_makeBill_142 rfl (lv_at hl 5 rfl) ?_
      refine va_get (v := .ref (b 23)) hx hb hg hin_M hown hK hP 0 rfl rfl 23 (by decide) (hg _ gw_517) (fun _ h => h) rfl dM_makeBill_143 ?_
      refine lv_iload_n hx hb dM_makeBill_146 rfl (lv_at hl 4 rfl) ?_
      refine lv_iload hx hb dM_makeBill_147 (lv_at hl 1 rfl) ?_
      refine kw_iast (w' := lm G b (σ 0 0) (σ 0 1) (σ 0 2) u0.1 u0.2.1 u0.2.2 (σ 1) (σ 2) (σ 3) (σ 4) (σ 5) (σ 6) (σ 7) (σ 8) (σ 9) (σ 10) (σ 11) (σ 12) (σ 13) (σ 14) (σ 15) (σ 16) (σ 17) (upd (σ 18) (((60 * ln) + (σ 17 ln.toNatClampNeg)).toNatClampNeg) (σ 0 1)) (upd (σ 19) (((60 * ln) + (σ 17 ln.toNatClampNeg)).toNatClampNeg) (σ 7 ln.toNatClampNeg)) (upd (σ 20) (((60 * ln) + (σ 17 ln.toNatClampNeg)).toNatClampNeg) (σ 9 ln.toNatClampNeg)) (upd (σ 21) (((60 * ln) + (σ 17 ln.toNatClampNeg)).toNatClampNeg) ((σ 7 ln.toNatClampNeg) - (σ 14 (((4 * ln) + 2).toNatClampNeg)))) (σ 22)) (j := (((60 * ln) + (σ 17 ln.toNatClampNeg)).toNatClampNeg)) hx hb hK hP hD hS 21 0 rfl rfl (kx_ix60 hln hbl) rfl dM_makeBill_149 rfl (fun H locs hP hD hS => ?_)
      refine lv_aload_n hx hb dM_makeBill_150 rfl (lv_at hl 5 rfl) ?_
      refine va_get (v := .ref (b 24)) hx hb hg hin_M hown hK hP 0 rfl rfl 24 (by decide) (hg _ gw_518) (fun _ h => h) rfl dM_makeBill_151 ?_
      refine lv_iload_n hx hb dM_makeBill_154 rfl (lv_at hl 4 rfl) ?_
      refine lv_iload hx hb dM_makeBill_155 (lv_at hl 0 rfl) ?_
      refine kw_iast (w' := lm G b (σ 0 0) (σ 0 1) (σ 0 2) u0.1 u0.2.1 u0.2.2 (σ 1) (σ 2) (σ 3) (σ 4) (σ 5) (σ 6) (σ 7) (σ 8) (σ 9) (σ 10) (σ 11) (σ 12) (σ 13) (σ 14) (σ 15) (σ 16) (σ 17) (upd (σ 18) (((60 * ln) + (σ 17 ln.toNatClampNeg)).toNatClampNeg) (σ 0 1)) (upd (σ 19) (((60 * ln) + (σ 17 ln.toNatClampNeg)).toNatClampNeg) (σ 7 ln.toNatClampNeg)) (upd (σ 20) (((60 * ln) + (σ 17 ln.toNatClampNeg)).toNatClampNeg) (σ 9 ln.toNatClampNeg)) (upd (σ 21) (((60 * ln) + (σ 17 ln.toNatClampNeg)).toNatClampNeg) ((σ 7 ln.toNatClampNeg) - (σ 14 (((4 * ln) + 2).toNatClampNeg)))) (upd (σ 22) (((60 * ln) + (σ 17 ln.toNatClampNeg)).toNatClampNeg) z_12)) (j := (((60 * ln) + (σ 17 ln.toNatClampNeg)).toNatClampNeg)) hx hb hK hP hD hS 22 0 rfl rfl (kx_ix60 hln hbl) rfl dM_makeBill_157 rfl (fun H locs hP hD hS => ?_)
      refine lv_aload_n hx hb dM_makeBill_158 rfl (lv_at hl 5 rfl) ?_
      refine va_get (v := .ref (b 19)) hx hb hg hin_M hown hK hP 0 rfl rfl 19 (by decide) (hg _ gw_513) (fun _ h => h) rfl dM_makeBill_159 ?_
      refine lv_iload_n hx hb dM_makeBill_162 rfl (lv_at hl 6 rfl) ?_
      refine lv_aload_n hx hb dM_makeBill_163 rfl (lv_at hl 5 rfl) ?_
      refine va_get (v := .ref (b 19)) hx hb hg hin_M hown hK hP 0 rfl rfl 19 (by decide) (hg _ gw_513) (fun _ h => h) rfl dM_makeBill_164 ?_
      refine lv_iload_n hx hb dM_makeBill_167 rfl (lv_at hl 6 rfl) ?_
      refine kw_iald (v := σ 17 ln.toNatClampNeg) (j := ln.toNatClampNeg) hx hb hK hP 17 0 rfl rfl hln rfl rfl dM_makeBill_168 ?_
      refine lv_iconst (v := 1) hx hb dM_makeBill_169 (by decide) ?_
      refine lv_iadd hx hb dM_makeBill_170 ?_
      refine kw_iast (w' := lm G b (σ 0 0) (σ 0 1) (σ 0 2) u0.1 u0.2.1 u0.2.2 (σ 1) (σ 2) (σ 3) (σ 4) (σ 5) (σ 6) (σ 7) (σ 8) (σ 9) (σ 10) (σ 11) (σ 12) (σ 13) (σ 14) (σ 15) (σ 16) (upd (σ 17) ln.toNatClampNeg ((σ 17 ln.toNatClampNeg) + 1)) (upd (σ 18) (((60 * ln) + (σ 17 ln.toNatClampNeg)).toNatClampNeg) (σ 0 1)) (upd (σ 19) (((60 * ln) + (σ 17 ln.toNatClampNeg)).toNatClampNeg) (σ 7 ln.toNatClampNeg)) (upd (σ 20) (((60 * ln) + (σ 17 ln.toNatClampNeg)).toNatClampNeg) (σ 9 ln.toNatClampNeg)) (upd (σ 21) (((60 * ln) + (σ 17 ln.toNatClampNeg)).toNatClampNeg) ((σ 7 ln.toNatClampNeg) - (σ 14 (((4 * ln) + 2).toNatClampNeg)))) (upd (σ 22) (((60 * ln) + (σ 17 ln.toNatClampNeg)).toNatClampNeg) z_12)) (j := ln.toNatClampNeg) hx hb hK hP hD hS 17 0 rfl rfl hln rfl dM_makeBill_171 rfl (fun H locs hP hD hS => ?_)
      refine lv_aload_n hx hb dM_makeBill_172 rfl (lv_at hl 5 rfl) ?_
      refine va_get (v := .ref (b 11)) hx hb hg hin_M hown hK hP 0 rfl rfl 11 (by decide) (hg _ gw_505) (fun _ h => h) rfl dM_makeBill_173 ?_
      refine lv_iload_n hx hb dM_makeBill_176 rfl (lv_at hl 6 rfl) ?_
      refine lv_iconst (v := 0) hx hb dM_makeBill_177 (by decide) ?_
      refine kw_iast (w' := lm G b (σ 0 0) (σ 0 1) (σ 0 2) u0.1 u0.2.1 u0.2.2 (σ 1) (σ 2) (σ 3) (σ 4) (σ 5) (σ 6) (σ 7) (σ 8) (upd (σ 9) ln.toNatClampNeg 0) (σ 10) (σ 11) (σ 12) (σ 13) (σ 14) (σ 15) (σ 16) (upd (σ 17) ln.toNatClampNeg ((σ 17 ln.toNatClampNeg) + 1)) (upd (σ 18) (((60 * ln) + (σ 17 ln.toNatClampNeg)).toNatClampNeg) (σ 0 1)) (upd (σ 19) (((60 * ln) + (σ 17 ln.toNatClampNeg)).toNatClampNeg) (σ 7 ln.toNatClampNeg)) (upd (σ 20) (((60 * ln) + (σ 17 ln.toNatClampNeg)).toNatClampNeg) (σ 9 ln.toNatClampNeg)) (upd (σ 21) (((60 * ln) + (σ 17 ln.toNatClampNeg)).toNatClampNeg) ((σ 7 ln.toNatClampNeg) - (σ 14 (((4 * ln) + 2).toNatClampNeg)))) (upd (σ 22) (((60 * ln) + (σ 17 ln.toNatClampNeg)).toNatClampNeg) z_12)) (j := ln.toNatClampNeg) hx hb hK hP hD hS 9 0 rfl rfl hln rfl dM_makeBill_178 rfl (fun H locs hP hD hS => ?_)
      refine lv_aload_n hx hb dM_makeBill_179 rfl (lv_at hl 5 rfl) ?_
      refine va_get (v := .ref (b 16)) hx hb hg hin_M hown hK hP 0 rfl rfl 16 (by decide) (hg _ gw_510) (fun _ h => h) rfl dM_makeBill_180 ?_
      refine lv_iconst (v := 4) hx hb dM_makeBill_183 (by decide) ?_
      refine lv_iload_n hx hb dM_makeBill_184 rfl (lv_at hl 6 rfl) ?_
      refine lv_imul hx hb dM_makeBill_185 ?_
      refine lv_iconst (v := 1) hx hb dM_makeBill_186 (by decide) ?_
      refine lv_iadd hx hb dM_makeBill_187 ?_
      refine lv_aload_n hx hb dM_makeBill_188 rfl (lv_at hl 5 rfl) ?_
      refine va_get (v := .ref (b 16)) hx hb hg hin_M hown hK hP 0 rfl rfl 16 (by decide) (hg _ gw_510) (fun _ h => h) rfl dM_makeBill_189 ?_
      refine lv_iconst (v := 4) hx hb dM_makeBill_192 (by decide) ?_
      refine lv_iload_n hx hb dM_makeBill_193 rfl (lv_at hl 6 rfl) ?_
      refine lv_imul hx hb dM_makeBill_194 ?_
      refine lv_iconst (v := 1) hx hb dM_makeBill_195 (by decide) ?_
      refine lv_iadd hx hb dM_makeBill_196 ?_
      refine kw_iald (v := σ 14 (((4 * ln) + 1).toNatClampNeg)) (j := (((4 * ln) + 1).toNatClampNeg)) hx hb hK hP 14 0 rfl rfl (kx_ix4 hln (by decide)) rfl rfl dM_makeBill_197 ?_
      refine lv_iload hx hb dM_makeBill_198 (lv_at hl 3 rfl) ?_
      refine lv_iadd hx hb dM_makeBill_200 ?_
      refine kw_iast (w' := lm G b (σ 0 0) (σ 0 1) (σ 0 2) u0.1 u0.2.1 u0.2.2 (σ 1) (σ 2) (σ 3) (σ 4) (σ 5) (σ 6) (σ 7) (σ 8) (upd (σ 9) ln.toNatClampNeg 0) (σ 10) (σ 11) (σ 12) (σ 13) (upd (σ 14) (((4 * ln) + 1).toNatClampNeg) ((σ 14 (((4 * ln) + 1).toNatClampNeg)) + (σ 9 ln.toNatClampNeg))) (σ 15) (σ 16) (upd (σ 17) ln.toNatClampNeg ((σ 17 ln.toNatClampNeg) + 1)) (upd (σ 18) (((60 * ln) + (σ 17 ln.toNatClampNeg)).toNatClampNeg) (σ 0 1)) (upd (σ 19) (((60 * ln) + (σ 17 ln.toNatClampNeg)).toNatClampNeg) (σ 7 ln.toNatClampNeg)) (upd (σ 20) (((60 * ln) + (σ 17 ln.toNatClampNeg)).toNatClampNeg) (σ 9 ln.toNatClampNeg)) (upd (σ 21) (((60 * ln) + (σ 17 ln.toNatClampNeg)).toNatClampNeg) ((σ 7 ln.toNatClampNeg) - (σ 14 (((4 * ln) + 2).toNatClampNeg)))) (upd (σ 22) (((60 * ln) + (σ 17 ln.toNatClampNeg)).toNatClampNeg) z_12)) (j := (((4 * ln) + 1).toNatClampNeg)) hx hb hK hP hD hS 14 0 rfl rfl (kx_ix4 hln (by decide)) rfl dM_makeBill_201 rfl (fun H locs hP hD hS => ?_)
      refine lv_aload_n hx hb dM_makeBill_202 rfl (lv_at hl 5 rfl) ?_
      refine va_get (v := .ref (b 16)) hx hb hg hin_M hown hK hP 0 rfl rfl 16 (by decide) (hg _ gw_510) (fun _ h => h) rfl dM_makeBill_203 ?_
      refine lv_iconst (v := 4) hx hb dM_makeBill_206 (by decide) ?_
      refine lv_iload_n hx hb dM_makeBill_207 rfl (lv_at hl 6 rfl) ?_
      refine lv_imul hx hb dM_makeBill_208 ?_
      refine lv_iconst (v := 2) hx hb dM_makeBill_209 (by decide) ?_
      refine lv_iadd hx hb dM_makeBill_210 ?_
      refine lv_aload_n hx hb dM_makeBill_211 rfl (lv_at hl 5 rfl) ?_
      refine va_get (v := .ref (b 16)) hx hb hg hin_M hown hK hP 0 rfl rfl 16 (by decide) (hg _ gw_510) (fun _ h => h) rfl dM_makeBill_212 ?_
      refine lv_iconst (v := 4) hx hb dM_makeBill_215 (by decide) ?_
      refine lv_iload_n hx hb dM_makeBill_216 rfl (lv_at hl 6 rfl) ?_
      refine lv_imul hx hb dM_makeBill_217 ?_
      refine lv_iconst (v := 2) hx hb dM_makeBill_218 (by decide) ?_
      refine lv_iadd hx hb dM_makeBill_219 ?_
      refine kw_iald (v := (upd (σ 14) (((4 * ln) + 1).toNatClampNeg) ((σ 14 (((4 * ln) + 1).toNatClampNeg)) + (σ 9 ln.toNatClampNeg))) (((4 * ln) + 2).toNatClampNeg)) (j := (((4 * ln) + 2).toNatClampNeg)) hx hb hK hP 14 0 rfl rfl (kx_ix4 hln (by decide)) rfl rfl dM_makeBill_220 ?_
      refine lv_iload hx hb dM_makeBill_221 (lv_at hl 1 rfl) ?_
      refine lv_iadd hx hb dM_makeBill_223 ?_
      refine kw_iast (w' := lm G b (σ 0 0) (σ 0 1) (σ 0 2) u0.1 u0.2.1 u0.2.2 (σ 1) (σ 2) (σ 3) (σ 4) (σ 5) (σ 6) (σ 7) (σ 8) (upd (σ 9) ln.toNatClampNeg 0) (σ 10) (σ 11) (σ 12) (σ 13) (upd (upd (σ 14) (((4 * ln) + 1).toNatClampNeg) ((σ 14 (((4 * ln) + 1).toNatClampNeg)) + (σ 9 ln.toNatClampNeg))) (((4 * ln) + 2).toNatClampNeg) (((upd (σ 14) (((4 * ln) + 1).toNatClampNeg) ((σ 14 (((4 * ln) + 1).toNatClampNeg)) + (σ 9 ln.toNatClampNeg))) (((4 * ln) + 2).toNatClampNeg)) + ((σ 7 ln.toNatClampNeg) - (σ 14 (((4 * ln) + 2).toNatClampNeg))))) (σ 15) (σ 16) (upd (σ 17) ln.toNatClampNeg ((σ 17 ln.toNatClampNeg) + 1)) (upd (σ 18) (((60 * ln) + (σ 17 ln.toNatClampNeg)).toNatClampNeg) (σ 0 1)) (upd (σ 19) (((60 * ln) + (σ 17 ln.toNatClampNeg)).toNatClampNeg) (σ 7 ln.toNatClampNeg)) (upd (σ 20) (((60 * ln) + (σ 17 ln.toNatClampNeg)).toNatClampNeg) (σ 9 ln.toNatClampNeg)) (upd (σ 21) (((60 * ln) + (σ 17 ln.toNatClampNeg)).toNatClampNeg) ((σ 7 ln.toNatClampNeg) - (σ 14 (((4 * ln) + 2).toNatClampNeg)))) (upd (σ 22) (((60 * ln) + (σ 17 ln.toNatClampNeg)).toNatClampNeg) z_12)) (j := (((4 * ln) + 2).toNatClampNeg)) hx hb hK hP hD hS 14 0 rfl rfl (kx_ix4 hln (by decide)) rfl dM_makeBill_224 rfl (fun H locs hP hD hS => ?_)
      refine lv_aload_n hx hb dM_makeBill_225 rfl (lv_at hl 5 rfl) ?_
      refine va_get (v := .ref (b 16)) hx hb hg hin_M hown hK hP 0 rfl rfl 16 (by decide) (hg _ gw_510) (fun _ h => h) rfl dM_makeBill_226 ?_
      refine lv_iconst (v := 4) hx hb dM_makeBill_229 (by decide) ?_
      refine lv_iload_n hx hb dM_makeBill_230 rfl (lv_at hl 6 rfl) ?_
      refine lv_imul hx hb dM_makeBill_231 ?_
      refine lv_iconst (v := 3) hx hb dM_makeBill_232 (by decide) ?_
      refine lv_iadd hx hb dM_makeBill_233 ?_
      refine lv_aload_n hx hb dM_makeBill_234 rfl (lv_at hl 5 rfl) ?_
      refine va_get (v := .ref (b 16)) hx hb hg hin_M hown hK hP 0 rfl rfl 16 (by decide) (hg _ gw_510) (fun _ h => h) rfl dM_makeBill_235 ?_
      refine lv_iconst (v := 4) hx hb dM_makeBill_238 (by decide) ?_
      refine lv_iload_n hx hb dM_makeBill_239 rfl (lv_at hl 6 rfl) ?_
      refine lv_imul hx hb dM_makeBill_240 ?_
      refine lv_iconst (v := 3) hx hb dM_makeBill_241 (by decide) ?_
      refine lv_iadd hx hb dM_makeBill_242 ?_
      refine kw_iald (v := (upd (upd (σ 14) (((4 * ln) + 1).toNatClampNeg) ((σ 14 (((4 * ln) + 1).toNatClampNeg)) + (σ 9 ln.toNatClampNeg))) (((4 * ln) + 2).toNatClampNeg) (((upd (σ 14) (((4 * ln) + 1).toNatClampNeg) ((σ 14 (((4 * ln) + 1).toNatClampNeg)) + (σ 9 ln.toNatClampNeg))) (((4 * ln) + 2).toNatClampNeg)) + ((σ 7 ln.toNatClampNeg) - (σ 14 (((4 * ln) + 2).toNatClampNeg))))) (((4 * ln) + 3).toNatClampNeg)) (j := (((4 * ln) + 3).toNatClampNeg)) hx hb hK hP 14 0 rfl rfl (kx_ix4 hln (by decide)) rfl rfl dM_makeBill_243 ?_
      refine lv_iload hx hb dM_makeBill_244 (lv_at hl 0 rfl) ?_
      refine lv_iadd hx hb dM_makeBill_246 ?_
      refine kw_iast (w' := lm G b (σ 0 0) (σ 0 1) (σ 0 2) u0.1 u0.2.1 u0.2.2 (σ 1) (σ 2) (σ 3) (σ 4) (σ 5) (σ 6) (σ 7) (σ 8) (upd (σ 9) ln.toNatClampNeg 0) (σ 10) (σ 11) (σ 12) (σ 13) (upd (upd (upd (σ 14) (((4 * ln) + 1).toNatClampNeg) ((σ 14 (((4 * ln) + 1).toNatClampNeg)) + (σ 9 ln.toNatClampNeg))) (((4 * ln) + 2).toNatClampNeg) (((upd (σ 14) (((4 * ln) + 1).toNatClampNeg) ((σ 14 (((4 * ln) + 1).toNatClampNeg)) + (σ 9 ln.toNatClampNeg))) (((4 * ln) + 2).toNatClampNeg)) + ((σ 7 ln.toNatClampNeg) - (σ 14 (((4 * ln) + 2).toNatClampNeg))))) (((4 * ln) + 3).toNatClampNeg) (((upd (upd (σ 14) (((4 * ln) + 1).toNatClampNeg) ((σ 14 (((4 * ln) + 1).toNatClampNeg)) + (σ 9 ln.toNatClampNeg))) (((4 * ln) + 2).toNatClampNeg) (((upd (σ 14) (((4 * ln) + 1).toNatClampNeg) ((σ 14 (((4 * ln) + 1).toNatClampNeg)) + (σ 9 ln.toNatClampNeg))) (((4 * ln) + 2).toNatClampNeg)) + ((σ 7 ln.toNatClampNeg) - (σ 14 (((4 * ln) + 2).toNatClampNeg))))) (((4 * ln) + 3).toNatClampNeg)) + z_12)) (σ 15) (σ 16) (upd (σ 17) ln.toNatClampNeg ((σ 17 ln.toNatClampNeg) + 1)) (upd (σ 18) (((60 * ln) + (σ 17 ln.toNatClampNeg)).toNatClampNeg) (σ 0 1)) (upd (σ 19) (((60 * ln) + (σ 17 ln.toNatClampNeg)).toNatClampNeg) (σ 7 ln.toNatClampNeg)) (upd (σ 20) (((60 * ln) + (σ 17 ln.toNatClampNeg)).toNatClampNeg) (σ 9 ln.toNatClampNeg)) (upd (σ 21) (((60 * ln) + (σ 17 ln.toNatClampNeg)).toNatClampNeg) ((σ 7 ln.toNatClampNeg) - (σ 14 (((4 * ln) + 2).toNatClampNeg)))) (upd (σ 22) (((60 * ln) + (σ 17 ln.toNatClampNeg)).toNatClampNeg) z_12)) (j := (((4 * ln) + 3).toNatClampNeg)) hx hb hK hP hD hS 14 0 rfl rfl (kx_ix4 hln (by decide)) rfl dM_makeBill_247 rfl (fun H locs hP hD hS => ?_)
      have hk9 : kM_makeBill σ ln kd = mkM (σ 0 0) (σ 0 1) (σ 0 2) (σ 0 3) (σ 0 4) (σ 0 5) (σ 1) (σ 2) (σ 3) (σ 4) (σ 5) (σ 6) (σ 7) (σ 8) (upd (σ 9) ln.toNatClampNeg 0) (σ 10) (σ 11) (σ 12) (σ 13) (upd (upd (upd (σ 14) (((4 * ln) + 1).toNatClampNeg) ((σ 14 (((4 * ln) + 1).toNatClampNeg)) + (σ 9 ln.toNatClampNeg))) (((4 * ln) + 2).toNatClampNeg) (((upd (σ 14) (((4 * ln) + 1).toNatClampNeg) ((σ 14 (((4 * ln) + 1).toNatClampNeg)) + (σ 9 ln.toNatClampNeg))) (((4 * ln) + 2).toNatClampNeg)) + ((σ 7 ln.toNatClampNeg) - (σ 14 (((4 * ln) + 2).toNatClampNeg))))) (((4 * ln) + 3).toNatClampNeg) (((upd (upd (σ 14) (((4 * ln) + 1).toNatClampNeg) ((σ 14 (((4 * ln) + 1).toNatClampNeg)) + (σ 9 ln.toNatClampNeg))) (((4 * ln) + 2).toNatClampNeg) (((upd (σ 14) (((4 * ln) + 1).toNatClampNeg) ((σ 14 (((4 * ln) + 1).toNatClampNeg)) + (σ 9 ln.toNatClampNeg))) (((4 * ln) + 2).toNatClampNeg)) + ((σ 7 ln.toNatClampNeg) - (σ 14 (((4 * ln) + 2).toNatClampNeg))))) (((4 * ln) + 3).toNatClampNeg)) + z_12)) (σ 15) (σ 16) (upd (σ 17) ln.toNatClampNeg ((σ 17 ln.toNatClampNeg) + 1)) (upd (σ 18) (((60 * ln) + (σ 17 ln.toNatClampNeg)).toNatClampNeg) (σ 0 1)) (upd (σ 19) (((60 * ln) + (σ 17 ln.toNatClampNeg)).toNatClampNeg) (σ 7 ln.toNatClampNeg)) (upd (σ 20) (((60 * ln) + (σ 17 ln.toNatClampNeg)).toNatClampNeg) (σ 9 ln.toNatClampNeg)) (upd (σ 21) (((60 * ln) + (σ 17 ln.toNatClampNeg)).toNatClampNeg) ((σ 7 ln.toNatClampNeg) - (σ 14 (((4 * ln) + 2).toNatClampNeg)))) (upd (σ 22) (((60 * ln) + (σ 17 ln.toNatClampNeg)).toNatClampNeg) z_12) := by subst e_2 e_13; unfold kM_makeBill; rw [if_neg h4, if_neg h8]
      exact kx_vret hx hb hr hlocks hK hP hD hS (u := (u0.1, u0.2.1, u0.2.2)) (by rw [hk9] <;> rfl) dM_makeBill_248
def aM_dayOfLoan_r_4 (σ : KS) (ln : Int32) : Int32 := kM_billedOn σ ln ((σ 0 1) - 10)
def aM_dayOfLoan_r_10 (σ : KS) (ln : Int32) : Int32 := kM_whichDue σ ln
def aM_dayOfLoan_S_17 (σ : KS) (ln : Int32) : KS := (kM_accrue σ ln)
def aM_dayOfLoan_S_23 (σ : KS) (ln : Int32) : KS := (kM_makeBill (aM_dayOfLoan_S_17 σ ln) ln (aM_dayOfLoan_r_10 σ ln))
def aM_dayOfLoan_S_29 (σ : KS) (ln : Int32) : KS := (kM_makeBill (aM_dayOfLoan_S_17 σ ln) ln (aM_dayOfLoan_r_10 σ ln))
def aM_dayOfLoan_z_31 (σ : KS) (ln : Int32) : Int32 := if (0 : Int32) ≤ ((upd (σ 11) ln.toNatClampNeg ((σ 11 ln.toNatClampNeg) - (σ 12 ln.toNatClampNeg))) ln.toNatClampNeg) then σ 12 ln.toNatClampNeg else (σ 12 ln.toNatClampNeg) - ((upd (σ 11) ln.toNatClampNeg ((σ 11 ln.toNatClampNeg) - (σ 12 ln.toNatClampNeg))) ln.toNatClampNeg)
def aM_dayOfLoan_r_34 (σ : KS) (ln : Int32) : Int32 := kM_twelfth (aM_dayOfLoan_z_31 σ ln)
def aM_dayOfLoan_S_39 (σ : KS) (ln : Int32) : KS := (kM_accrue (mkM (σ 0 0) (σ 0 1) (σ 0 2) (σ 0 3) (σ 0 4) (σ 0 5) (σ 1) (σ 2) (σ 3) (σ 4) (σ 5) (σ 6) (σ 7) (σ 8) (σ 9) (σ 10) (upd (σ 11) ln.toNatClampNeg ((σ 11 ln.toNatClampNeg) - (σ 12 ln.toNatClampNeg))) (σ 12) (upd (σ 13) ln.toNatClampNeg (aM_dayOfLoan_r_34 σ ln)) (σ 14) (σ 15) (σ 16) (σ 17) (σ 18) (σ 19) (σ 20) (σ 21) (σ 22)) ln)
def aM_dayOfLoan_S_45 (σ : KS) (ln : Int32) : KS := (kM_makeBill (aM_dayOfLoan_S_39 σ ln) ln (aM_dayOfLoan_r_10 σ ln))
def aM_dayOfLoan_S_51 (σ : KS) (ln : Int32) : KS := (kM_makeBill (aM_dayOfLoan_S_39 σ ln) ln (aM_dayOfLoan_r_10 σ ln))
def aM_dayOfLoan_r_57 (σ : KS) (ln : Int32) : Int32 := kM_whichDue σ ln
def aM_dayOfLoan_S_64 (σ : KS) (ln : Int32) : KS := (kM_accrue σ ln)
def aM_dayOfLoan_S_70 (σ : KS) (ln : Int32) : KS := (kM_makeBill (aM_dayOfLoan_S_64 σ ln) ln (aM_dayOfLoan_r_57 σ ln))
def aM_dayOfLoan_S_76 (σ : KS) (ln : Int32) : KS := (kM_makeBill (aM_dayOfLoan_S_64 σ ln) ln (aM_dayOfLoan_r_57 σ ln))
def aM_dayOfLoan_z_78 (σ : KS) (ln : Int32) : Int32 := if (0 : Int32) ≤ ((upd (σ 11) ln.toNatClampNeg ((σ 11 ln.toNatClampNeg) - (σ 12 ln.toNatClampNeg))) ln.toNatClampNeg) then σ 12 ln.toNatClampNeg else (σ 12 ln.toNatClampNeg) - ((upd (σ 11) ln.toNatClampNeg ((σ 11 ln.toNatClampNeg) - (σ 12 ln.toNatClampNeg))) ln.toNatClampNeg)
def aM_dayOfLoan_r_81 (σ : KS) (ln : Int32) : Int32 := kM_twelfth (aM_dayOfLoan_z_78 σ ln)
def aM_dayOfLoan_S_86 (σ : KS) (ln : Int32) : KS := (kM_accrue (mkM (σ 0 0) (σ 0 1) (σ 0 2) (σ 0 3) (σ 0 4) (σ 0 5) (σ 1) (σ 2) (σ 3) (σ 4) (σ 5) (σ 6) (σ 7) (σ 8) (σ 9) (σ 10) (upd (σ 11) ln.toNatClampNeg ((σ 11 ln.toNatClampNeg) - (σ 12 ln.toNatClampNeg))) (σ 12) (upd (σ 13) ln.toNatClampNeg (aM_dayOfLoan_r_81 σ ln)) (σ 14) (σ 15) (σ 16) (σ 17) (σ 18) (σ 19) (σ 20) (σ 21) (σ 22)) ln)
def aM_dayOfLoan_S_92 (σ : KS) (ln : Int32) : KS := (kM_makeBill (aM_dayOfLoan_S_86 σ ln) ln (aM_dayOfLoan_r_57 σ ln))
def aM_dayOfLoan_S_98 (σ : KS) (ln : Int32) : KS := (kM_makeBill (aM_dayOfLoan_S_86 σ ln) ln (aM_dayOfLoan_r_57 σ ln))
def aM_dayOfLoan_r_100 (σ : KS) (ln : Int32) : Int64 := kM_rounded ((((σ 14 (((4 * ln) + 1).toNatClampNeg)).toInt64) + ((σ 14 (((4 * ln) + 2).toNatClampNeg)).toInt64)) + ((σ 14 (((4 * ln) + 3).toNatClampNeg)).toInt64)) (20 : Int64) (σ 5 ln.toNatClampNeg)
def aM_dayOfLoan_r_105 (σ : KS) (ln : Int32) : Int32 := kM_whichDue (mkM (σ 0 0) (σ 0 1) (σ 0 2) (σ 0 3) (σ 0 4) (σ 0 5) (σ 1) (σ 2) (σ 3) (σ 4) (σ 5) (σ 6) (σ 7) (σ 8) (σ 9) (σ 10) (σ 11) (σ 12) (σ 13) (upd (σ 14) ((4 * ln).toNatClampNeg) ((σ 14 ((4 * ln).toNatClampNeg)) + (aM_dayOfLoan_r_100 σ ln).toInt32)) (σ 15) (σ 16) (σ 17) (σ 18) (σ 19) (σ 20) (σ 21) (σ 22)) ln
def aM_dayOfLoan_S_112 (σ : KS) (ln : Int32) : KS := (kM_accrue (mkM (σ 0 0) (σ 0 1) (σ 0 2) (σ 0 3) (σ 0 4) (σ 0 5) (σ 1) (σ 2) (σ 3) (σ 4) (σ 5) (σ 6) (σ 7) (σ 8) (σ 9) (σ 10) (σ 11) (σ 12) (σ 13) (upd (σ 14) ((4 * ln).toNatClampNeg) ((σ 14 ((4 * ln).toNatClampNeg)) + (aM_dayOfLoan_r_100 σ ln).toInt32)) (σ 15) (σ 16) (σ 17) (σ 18) (σ 19) (σ 20) (σ 21) (σ 22)) ln)
def aM_dayOfLoan_S_118 (σ : KS) (ln : Int32) : KS := (kM_makeBill (aM_dayOfLoan_S_112 σ ln) ln (aM_dayOfLoan_r_105 σ ln))
def aM_dayOfLoan_S_124 (σ : KS) (ln : Int32) : KS := (kM_makeBill (aM_dayOfLoan_S_112 σ ln) ln (aM_dayOfLoan_r_105 σ ln))
def aM_dayOfLoan_z_126 (σ : KS) (ln : Int32) : Int32 := if (0 : Int32) ≤ ((upd (σ 11) ln.toNatClampNeg ((σ 11 ln.toNatClampNeg) - (σ 12 ln.toNatClampNeg))) ln.toNatClampNeg) then σ 12 ln.toNatClampNeg else (σ 12 ln.toNatClampNeg) - ((upd (σ 11) ln.toNatClampNeg ((σ 11 ln.toNatClampNeg) - (σ 12 ln.toNatClampNeg))) ln.toNatClampNeg)
def aM_dayOfLoan_r_129 (σ : KS) (ln : Int32) : Int32 := kM_twelfth (aM_dayOfLoan_z_126 σ ln)
def aM_dayOfLoan_S_134 (σ : KS) (ln : Int32) : KS := (kM_accrue (mkM (σ 0 0) (σ 0 1) (σ 0 2) (σ 0 3) (σ 0 4) (σ 0 5) (σ 1) (σ 2) (σ 3) (σ 4) (σ 5) (σ 6) (σ 7) (σ 8) (σ 9) (σ 10) (upd (σ 11) ln.toNatClampNeg ((σ 11 ln.toNatClampNeg) - (σ 12 ln.toNatClampNeg))) (σ 12) (upd (σ 13) ln.toNatClampNeg (aM_dayOfLoan_r_129 σ ln)) (upd (σ 14) ((4 * ln).toNatClampNeg) ((σ 14 ((4 * ln).toNatClampNeg)) + (aM_dayOfLoan_r_100 σ ln).toInt32)) (σ 15) (σ 16) (σ 17) (σ 18) (σ 19) (σ 20) (σ 21) (σ 22)) ln)
def aM_dayOfLoan_S_140 (σ : KS) (ln : Int32) : KS := (kM_makeBill (aM_dayOfLoan_S_134 σ ln) ln (aM_dayOfLoan_r_105 σ ln))
def aM_dayOfLoan_S_146 (σ : KS) (ln : Int32) : KS := (kM_makeBill (aM_dayOfLoan_S_134 σ ln) ln (aM_dayOfLoan_r_105 σ ln))
def kM_dayOfLoan (σ : KS) (ln : Int32) : Int32 × KS := if (aM_dayOfLoan_r_4 σ ln) = (0 : Int32) then (if (aM_dayOfLoan_r_10 σ ln) = (0 : Int32) then (0, σ) else (if ((aM_dayOfLoan_r_10 σ ln) - (aM_dayOfLoan_r_10 σ ln) / 12 * 12) = (0 : Int32) then (if ((aM_dayOfLoan_S_39 σ ln) 7 ln.toNatClampNeg) = (0 : Int32) then (if ((aM_dayOfLoan_S_39 σ ln) 9 ln.toNatClampNeg) = (0 : Int32) then (0, (aM_dayOfLoan_S_39 σ ln)) else (1, (aM_dayOfLoan_S_51 σ ln))) else (1, (aM_dayOfLoan_S_45 σ ln))) else (if ((aM_dayOfLoan_S_17 σ ln) 7 ln.toNatClampNeg) = (0 : Int32) then (if ((aM_dayOfLoan_S_17 σ ln) 9 ln.toNatClampNeg) = (0 : Int32) then (0, (aM_dayOfLoan_S_17 σ ln)) else (1, (aM_dayOfLoan_S_29 σ ln))) else (1, (aM_dayOfLoan_S_23 σ ln))))) else (if (lg_cmp ((((σ 14 (((4 * ln) + 1).toNatClampNeg)).toInt64) + ((σ 14 (((4 * ln) + 2).toNatClampNeg)).toInt64)) + ((σ 14 (((4 * ln) + 3).toNatClampNeg)).toInt64)) 0) ≤ (0 : Int32) then (if (aM_dayOfLoan_r_57 σ ln) = (0 : Int32) then (0, σ) else (if ((aM_dayOfLoan_r_57 σ ln) - (aM_dayOfLoan_r_57 σ ln) / 12 * 12) = (0 : Int32) then (if ((aM_dayOfLoan_S_86 σ ln) 7 ln.toNatClampNeg) = (0 : Int32) then (if ((aM_dayOfLoan_S_86 σ ln) 9 ln.toNatClampNeg) = (0 : Int32) then (0, (aM_dayOfLoan_S_86 σ ln)) else (1, (aM_dayOfLoan_S_98 σ ln))) else (1, (aM_dayOfLoan_S_92 σ ln))) else (if ((aM_dayOfLoan_S_64 σ ln) 7 ln.toNatClampNeg) = (0 : Int32) then (if ((aM_dayOfLoan_S_64 σ ln) 9 ln.toNatClampNeg) = (0 : Int32) then (0, (aM_dayOfLoan_S_64 σ ln)) else (1, (aM_dayOfLoan_S_76 σ ln))) else (1, (aM_dayOfLoan_S_70 σ ln))))) else (if (aM_dayOfLoan_r_105 σ ln) = (0 : Int32) then (0, mkM (σ 0 0) (σ 0 1) (σ 0 2) (σ 0 3) (σ 0 4) (σ 0 5) (σ 1) (σ 2) (σ 3) (σ 4) (σ 5) (σ 6) (σ 7) (σ 8) (σ 9) (σ 10) (σ 11) (σ 12) (σ 13) (upd (σ 14) ((4 * ln).toNatClampNeg) ((σ 14 ((4 * ln).toNatClampNeg)) + (aM_dayOfLoan_r_100 σ ln).toInt32)) (σ 15) (σ 16) (σ 17) (σ 18) (σ 19) (σ 20) (σ 21) (σ 22)) else (if ((aM_dayOfLoan_r_105 σ ln) - (aM_dayOfLoan_r_105 σ ln) / 12 * 12) = (0 : Int32) then (if ((aM_dayOfLoan_S_134 σ ln) 7 ln.toNatClampNeg) = (0 : Int32) then (if ((aM_dayOfLoan_S_134 σ ln) 9 ln.toNatClampNeg) = (0 : Int32) then (0, (aM_dayOfLoan_S_134 σ ln)) else (1, (aM_dayOfLoan_S_146 σ ln))) else (1, (aM_dayOfLoan_S_140 σ ln))) else (if ((aM_dayOfLoan_S_112 σ ln) 7 ln.toNatClampNeg) = (0 : Int32) then (if ((aM_dayOfLoan_S_112 σ ln) 9 ln.toNatClampNeg) = (0 : Int32) then (0, (aM_dayOfLoan_S_112 σ ln)) else (1, (aM_dayOfLoan_S_124 σ ln))) else (1, (aM_dayOfLoan_S_118 σ ln))))))
abbrev wgM_dayOfLoan : List Cond := .code yM_dayOfLoan cM_dayOfLoan 5 (some .int) :: GW
abbrev rm_M_dayOfLoan : Room := { frames := 7, cells := 0, slots := 0, locals := 164 }
set_option maxRecDepth 100000 in
set_option maxHeartbeats 4000000 in
theorem c_M_dayOfLoan (l : Launch) (D : va_G) (G : Nat → ClassId) (b : Nat → Nat) (σ : KS) (u0 : Int32 × Int32 × Int32) (ln : Int32) (sz : Nat) (hln : vp_in ln 3) (hto : σ 0 1 ≤ 1073741824) (hbl : 0 ≤ (σ 17 ln.toNatClampNeg).toInt ∧ (σ 17 ln.toNatClampNeg).toInt < 60) : Met l yM_dayOfLoan wgM_dayOfLoan rm_M_dayOfLoan (kw_Pc D vwCl (gt G) [.ref (b 0), .int ln] (mcells G b (scr σ u0)) sz) (kx_i D vwCl (gt G) (mcells G b (scr σ u0)) sz ((kM_dayOfLoan σ ln).1) (fun u => mcells G b (scr ((kM_dayOfLoan σ ln).2) u))) 0 0 (va_A (mcells G b (scr σ u0)) sz) := by
  refine Met.ofW (cc := cM_dayOfLoan) (maxL := 5) (ret := (some .int)) (by decide) rfl ?_
  intro p e s m args below meth c s₁ B hml hv
  have hx := B.exec
  have hb := B.bytes
  have hr := B.returns
  have hts := atoms_spec (ws := wgM_dayOfLoan) B.pre
  have hg : ∀ w ∈ GW, w.before args s = true := fun w h => hts w (List.mem_cons_of_mem _ h)
  have hown : s.vm.findClass RM = some m.cls := findClass_of_methodNamed B.named
  have hlocks := B.notSynchronized
  obtain ⟨hv, hsz, hP, hK, hD0⟩ := hv
  subst hsz
  have hD := hD0.self (sz := s.heap.size)
  have hS : va_S (va_A (mcells G b (scr σ u0)) s.heap.size) s.heap s.heap [] := va_S.rf
  refine kw_entry [.ref (b 0), .int ln] hv (Nat.le_of_ble_eq_true rfl) (fun ls hl => ?_)
  have hl : lv_has ls 5 [(0, .ref (b 0)), (1, .int ln)] := hl
  refine lv_aload_n hx hb dM_dayOfLoan_0 rfl (lv_at hl 0 rfl) ?_
  refine va_get (v := .ref (b 16)) hx hb hg hin_M hown hK hP 0 rfl rfl 16 (by decide) (hg _ gw_510) (fun _ h => h) rfl dM_dayOfLoan_1 ?_
  refine lv_iconst (v := 4) hx hb dM_dayOfLoan_4 (by decide) ?_
  refine lv_iload_n hx hb dM_dayOfLoan_5 rfl (lv_at hl 1 rfl) ?_
  refine lv_imul hx hb dM_dayOfLoan_6 ?_
  refine lv_iconst (v := 1) hx hb dM_dayOfLoan_7 (by decide) ?_
  refine lv_iadd hx hb dM_dayOfLoan_8 ?_
  refine kw_iald (v := σ 14 (((4 * ln) + 1).toNatClampNeg)) (j := (((4 * ln) + 1).toNatClampNeg)) hx hb hK hP 14 0 rfl rfl (kx_ix4 hln (by decide)) rfl rfl dM_dayOfLoan_9 ?_
  refine lv_i2l hx hb dM_dayOfLoan_10 rfl ?_
  refine lv_aload_n hx hb dM_dayOfLoan_11 rfl (lv_at hl 0 rfl) ?_
  refine va_get (v := .ref (b 16)) hx hb hg hin_M hown hK hP 0 rfl rfl 16 (by decide) (hg _ gw_510) (fun _ h => h) rfl dM_dayOfLoan_12 ?_
  refine lv_iconst (v := 4) hx hb dM_dayOfLoan_15 (by decide) ?_
  refine lv_iload_n hx hb dM_dayOfLoan_16 rfl (lv_at hl 1 rfl) ?_
  refine lv_imul hx hb dM_dayOfLoan_17 ?_
  refine lv_iconst (v := 2) hx hb dM_dayOfLoan_18 (by decide) ?_
  refine lv_iadd hx hb dM_dayOfLoan_19 ?_
  refine kw_iald (v := σ 14 (((4 * ln) + 2).toNatClampNeg)) (j := (((4 * ln) + 2).toNatClampNeg)) hx hb hK hP 14 0 rfl rfl (kx_ix4 hln (by decide)) rfl rfl dM_dayOfLoan_20 ?_
  refine lv_i2l hx hb dM_dayOfLoan_21 rfl ?_
  refine lv_ladd hx hb dM_dayOfLoan_22 ?_
  refine lv_aload_n hx hb dM_dayOfLoan_23 rfl (lv_at hl 0 rfl) ?_
  refine va_get (v := .ref (b 16)) hx hb hg hin_M hown hK hP 0 rfl rfl 16 (by decide) (hg _ gw_510) (fun _ h => h) rfl dM_dayOfLoan_24 ?_
  refine lv_iconst (v := 4) hx hb dM_dayOfLoan_27 (by decide) ?_
  refine lv_iload_n hx hb dM_dayOfLoan_28 rfl (lv_at hl 1 rfl) ?_
  refine lv_imul hx hb dM_dayOfLoan_29 ?_
  refine lv_iconst (v := 3) hx hb dM_dayOfLoan_30 (by decide) ?_
  refine lv_iadd hx hb dM_dayOfLoan_31 ?_
  refine kw_iald (v := σ 14 (((4 * ln) + 3).toNatClampNeg)) (j := (((4 * ln) + 3).toNatClampNeg)) hx hb hK hP 14 0 rfl rfl (kx_ix4 hln (by decide)) rfl rfl dM_dayOfLoan_32 ?_
  refine lv_i2l hx hb dM_dayOfLoan_33 rfl ?_
  refine lv_ladd hx hb dM_dayOfLoan_34 ?_
  refine lv_lstore_n hx hb dM_dayOfLoan_35 rfl hl (by decide) rfl (fun ls hl => ?_)
  have hl : lv_has ls 5 [(2, .long ((((σ 14 (((4 * ln) + 1).toNatClampNeg)).toInt64) + ((σ 14 (((4 * ln) + 2).toNatClampNeg)).toInt64)) + ((σ 14 (((4 * ln) + 3).toNatClampNeg)).toInt64))), (0, .ref (b 0)), (1, .int ln)] := hl
  refine lv_aload_n hx hb dM_dayOfLoan_36 rfl (lv_at hl 1 rfl) ?_
  refine lv_iload_n hx hb dM_dayOfLoan_37 rfl (lv_at hl 2 rfl) ?_
  refine lv_aload_n hx hb dM_dayOfLoan_38 rfl (lv_at hl 1 rfl) ?_
  refine va_get (v := .int (σ 0 1)) hx hb hg hin_M hown hK hP 0 rfl rfl 1 (by decide) (hg _ gw_495) (fun _ h => h) rfl dM_dayOfLoan_39 ?_
  refine lv_bipush (v := 10) hx hb dM_dayOfLoan_42 (by decide) ?_
  refine lv_isub hx hb dM_dayOfLoan_44 ?_
  refine kx_reti0 (va_runV (C := RM) (As := [.int ln, .int ((σ 0 1) - 10)]) (rest := []) ⟨hx, hb, hml, hown, hg⟩ (c_M_billedOn l D G b σ (u0.1, u0.2.1, u0.2.2) ln ((σ 0 1) - 10) _ hln hbl) ⟨kw_cB (n := 2) hg gw_669 gw_2 gw_667 (by decide +kernel) (by decide +kernel) ⟨Nat.le_of_ble_eq_true rfl, Nat.le_of_ble_eq_true rfl⟩ rfl rfl, hg _ gw_668, hg _ gw_754⟩ (kw_preV (q0 := 0) hK hP hD rfl rfl) rfl rfl hl.1 rfl (lv_room (Nat.le_of_ble_eq_true rfl)) dM_dayOfLoan_45 ⟨Nat.le_of_ble_eq_true rfl, Nat.le_of_ble_eq_true rfl⟩) hP hD hS (fun _ h => Or.inr h) (fun u_1 u_2 u_3 H locs hP hD hS => ?_)
  refine lv_topi (fun r_4 e_5 => ?_)
  replace e_5 := e_5.symm
  replace e_5 : aM_dayOfLoan_r_4 σ ln = r_4 := by exact e_5
  refine lv_if_eq (tgt := 88) hx hb dM_dayOfLoan_48 (by decide) (fun h6 => ?_) (fun h6 => ?_)
  · skip
    refine lv_aload_n hx hb dM_dayOfLoan_88 rfl (lv_at hl 1 rfl) ?_
    refine lv_iload_n hx hb dM_dayOfLoan_89 rfl (lv_at hl 2 rfl) ?_
    refine kx_reti0 (va_runV (C := RM) (As := [.int ln]) (rest := []) ⟨hx, hb, hml, hown, hg⟩ (c_M_whichDue l D G b σ (u_1, u_2, u_3) ln _ hln) ⟨kw_cB (n := 1) hg gw_673 gw_2 gw_671 (by decide +kernel) (by decide +kernel) ⟨Nat.le_of_ble_eq_true rfl, Nat.le_of_ble_eq_true rfl⟩ rfl rfl, hg _ gw_672, hg _ gw_755⟩ (kw_preV (q0 := 0) hK hP hD rfl rfl) rfl rfl hl.1 rfl (lv_room (Nat.le_of_ble_eq_true rfl)) dM_dayOfLoan_90 ⟨Nat.le_of_ble_eq_true rfl, Nat.le_of_ble_eq_true rfl⟩) hP hD hS (fun _ h => Or.inr h) (fun u_7 u_8 u_9 H locs hP hD hS => ?_)
    refine lv_topi (fun r_10 e_11 => ?_)
    replace e_11 := e_11.symm
    replace e_11 : aM_dayOfLoan_r_10 σ ln = r_10 := by subst e_5; exact e_11
    refine lv_istore hx hb dM_dayOfLoan_93 hl (by decide) rfl (fun ls hl => ?_)
    have hl : lv_has ls 5 [(4, .int r_10), (2, .long ((((σ 14 (((4 * ln) + 1).toNatClampNeg)).toInt64) + ((σ 14 (((4 * ln) + 2).toNatClampNeg)).toInt64)) + ((σ 14 (((4 * ln) + 3).toNatClampNeg)).toInt64))), (0, .ref (b 0)), (1, .int ln)] := hl
    refine lv_iload hx hb dM_dayOfLoan_95 (lv_at hl 0 rfl) ?_
    refine lv_if_ne (tgt := 102) hx hb dM_dayOfLoan_97 (by decide) (fun h12 => ?_) (fun h12 => ?_)
    · skip
      refine lv_iload hx hb dM_dayOfLoan_102 (lv_at hl 0 rfl) ?_
      refine lv_bipush (v := 12) hx hb dM_dayOfLoan_104 (by decide) ?_
      refine lv_irem hx hb dM_dayOfLoan_106 (by decide) ?_
      refine lv_if_ne (tgt := 169) hx hb dM_dayOfLoan_107 (by decide) (fun h13 => ?_) (fun h13 => ?_)
      · skip
        refine lv_aload_n hx hb dM_dayOfLoan_169 rfl (lv_at hl 2 rfl) ?_
        refine lv_iload_n hx hb dM_dayOfLoan_170 rfl (lv_at hl 3 rfl) ?_
        refine kx_retv0 (va_runV (C := RM) (As := [.int ln]) (rest := []) ⟨hx, hb, hml, hown, hg⟩ (c_M_accrue l D G b σ (u_7, u_8, u_9) ln _ hln hto) ⟨kw_cB (n := 1) hg gw_676 gw_2 gw_674 (by decide +kernel) (by decide +kernel) ⟨Nat.le_of_ble_eq_true rfl, Nat.le_of_ble_eq_true rfl⟩ rfl rfl, hg _ gw_675, hg _ gw_756⟩ (kw_preV (q0 := 0) hK hP hD rfl rfl) rfl rfl hl.1 rfl (lv_room (Nat.le_of_ble_eq_true rfl)) dM_dayOfLoan_171 ⟨Nat.le_of_ble_eq_true rfl, Nat.le_of_ble_eq_true rfl⟩) hP hD hS (fun _ h => Or.inr h) (fun u_14 u_15 u_16 H locs hP hD hS => ?_)
        obtain ⟨S_17, e_18⟩ : ∃ z : KS, (kM_accrue σ ln) = z := ⟨_, rfl⟩
        rw [e_18] at hP hD
        replace e_18 : aM_dayOfLoan_S_17 σ ln = S_17 := by subst e_5 e_11; exact e_18
        refine lv_aload_n hx hb dM_dayOfLoan_174 rfl (lv_at hl 2 rfl) ?_
        refine va_get (v := .ref (b 9)) hx hb hg hin_M hown hK hP 0 rfl rfl 9 (by decide) (hg _ gw_503) (fun _ h => h) rfl dM_dayOfLoan_175 ?_
        refine lv_iload_n hx hb dM_dayOfLoan_178 rfl (lv_at hl 3 rfl) ?_
        refine kw_iald (v := S_17 7 ln.toNatClampNeg) (j := ln.toNatClampNeg) hx hb hK hP 7 0 rfl rfl hln rfl rfl dM_dayOfLoan_179 ?_
        refine lv_if_ne (tgt := 194) hx hb dM_dayOfLoan_180 (by decide) (fun h19 => ?_) (fun h19 => ?_)
        · skip
          refine lv_aload_n hx hb dM_dayOfLoan_194 rfl (lv_at hl 2 rfl) ?_
          refine lv_iload_n hx hb dM_dayOfLoan_195 rfl (lv_at hl 3 rfl) ?_
          refine lv_iload hx hb dM_dayOfLoan_196 (lv_at hl 0 rfl) ?_
          refine kx_retv0 (va_runV (C := RM) (As := [.int ln, .int r_10]) (rest := []) ⟨hx, hb, hml, hown, hg⟩ (c_M_makeBill l D G b S_17 (u_14, u_15, u_16) ln r_10 _ hln (by subst e_5 e_11 e_18; exact hbl)) ⟨kw_cB (n := 2) hg gw_679 gw_2 gw_677 (by decide +kernel) (by decide +kernel) ⟨Nat.le_of_ble_eq_true rfl, Nat.le_of_ble_eq_true rfl⟩ rfl rfl, hg _ gw_678, hg _ gw_757⟩ (kw_preV (q0 := 0) hK hP hD rfl rfl) rfl rfl hl.1 rfl (lv_room (Nat.le_of_ble_eq_true rfl)) dM_dayOfLoan_198 ⟨Nat.le_of_ble_eq_true rfl, Nat.le_of_ble_eq_true rfl⟩) hP hD hS (fun _ h => Or.inr h) (fun u_20 u_21 u_22 H locs hP hD hS => ?_)
          obtain ⟨S_23, e_24⟩ : ∃ z : KS, (kM_makeBill S_17 ln r_10) = z := ⟨_, rfl⟩
          rw [e_24] at hP hD
          replace e_24 : aM_dayOfLoan_S_23 σ ln = S_23 := by subst e_5 e_11 e_18; exact e_24
          refine lv_iconst (v := 1) hx hb dM_dayOfLoan_201 (by decide) ?_
          have hk9 : kM_dayOfLoan σ ln = (1, S_23) := by subst e_5 e_11 e_18 e_24; unfold kM_dayOfLoan; rw [if_pos h6, if_neg h12, if_neg h13, if_neg h19]
          exact kx_iret hx hb hr hlocks hK hP hD hS (by rw [hk9]) (u := (u_20, u_21, u_22)) (by rw [hk9] <;> rfl) dM_dayOfLoan_202
        · skip
          refine lv_aload_n hx hb dM_dayOfLoan_183 rfl (lv_at hl 2 rfl) ?_
          refine va_get (v := .ref (b 11)) hx hb hg hin_M hown hK hP 0 rfl rfl 11 (by decide) (hg _ gw_505) (fun _ h => h) rfl dM_dayOfLoan_184 ?_
          refine lv_iload_n hx hb dM_dayOfLoan_187 rfl (lv_at hl 3 rfl) ?_
          refine kw_iald (v := S_17 9 ln.toNatClampNeg) (j := ln.toNatClampNeg) hx hb hK hP 9 0 rfl rfl hln rfl rfl dM_dayOfLoan_188 ?_
          refine lv_if_ne (tgt := 194) hx hb dM_dayOfLoan_189 (by decide) (fun h25 => ?_) (fun h25 => ?_)
          · skip
            refine lv_aload_n hx hb dM_dayOfLoan_194 rfl (lv_at hl 2 rfl) ?_
            refine lv_iload_n hx hb dM_dayOfLoan_195 rfl (lv_at hl 3 rfl) ?_
            refine lv_iload hx hb dM_dayOfLoan_196 (lv_at hl 0 rfl) ?_
            refine kx_retv0 (va_runV (C := RM) (As := [.int ln, .int r_10]) (rest := []) ⟨hx, hb, hml, hown, hg⟩ (c_M_makeBill l D G b S_17 (u_14, u_15, u_16) ln r_10 _ hln (by subst e_5 e_11 e_18; exact hbl)) ⟨kw_cB (n := 2) hg gw_679 gw_2 gw_677 (by decide +kernel) (by decide +kernel) ⟨Nat.le_of_ble_eq_true rfl, Nat.le_of_ble_eq_true rfl⟩ rfl rfl, hg _ gw_678, hg _ gw_757⟩ (kw_preV (q0 := 0) hK hP hD rfl rfl) rfl rfl hl.1 rfl (lv_room (Nat.le_of_ble_eq_true rfl)) dM_dayOfLoan_198 ⟨Nat.le_of_ble_eq_true rfl, Nat.le_of_ble_eq_true rfl⟩) hP hD hS (fun _ h => Or.inr h) (fun u_26 u_27 u_28 H locs hP hD hS => ?_)
            obtain ⟨S_29, e_30⟩ : ∃ z : KS, (kM_makeBill S_17 ln r_10) = z := ⟨_, rfl⟩
            rw [e_30] at hP hD
            replace e_30 : aM_dayOfLoan_S_29 σ ln = S_29 := by subst e_5 e_11 e_18; exact e_30
            refine lv_iconst (v := 1) hx hb dM_dayOfLoan_201 (by decide) ?_
            have hk9 : kM_dayOfLoan σ ln = (1, S_29) := by subst e_5 e_11 e_18 e_30; unfold kM_dayOfLoan; rw [if_pos h6, if_neg h12, if_neg h13, if_pos h19, if_neg h25]
            exact kx_iret hx hb hr hlocks hK hP hD hS (by rw [hk9]) (u := (u_26, u_27, u_28)) (by rw [hk9] <;> rfl) dM_dayOfLoan_202
          · skip
            refine lv_iconst (v := 0) hx hb dM_dayOfLoan_192 (by decide) ?_
            have hk9 : kM_dayOfLoan σ ln = (0, S_17) := by subst e_5 e_11 e_18; unfold kM_dayOfLoan; rw [if_pos h6, if_neg h12, if_neg h13, if_pos h19, if_pos h25]
            exact kx_iret hx hb hr hlocks hK hP hD hS (by rw [hk9]) (u := (u_14, u_15, u_16)) (by rw [hk9] <;> rfl) dM_dayOfLoan_193
      · skip
        refine lv_aload_n hx hb dM_dayOfLoan_110 rfl (lv_at hl 2 rfl) ?_
        refine va_get (v := .ref (b 13)) hx hb hg hin_M hown hK hP 0 rfl rfl 13 (by decide) (hg _ gw_507) (fun _ h => h) rfl dM_dayOfLoan_111 ?_
        refine lv_iload_n hx hb dM_dayOfLoan_114 rfl (lv_at hl 3 rfl) ?_
        refine lv_aload_n hx hb dM_dayOfLoan_115 rfl (lv_at hl 2 rfl) ?_
        refine va_get (v := .ref (b 13)) hx hb hg hin_M hown hK hP 0 rfl rfl 13 (by decide) (hg _ gw_507) (fun _ h => h) rfl dM_dayOfLoan_116 ?_
        refine lv_iload_n hx hb dM_dayOfLoan_119 rfl (lv_at hl 3 rfl) ?_
        refine kw_iald (v := σ 11 ln.toNatClampNeg) (j := ln.toNatClampNeg) hx hb hK hP 11 0 rfl rfl hln rfl rfl dM_dayOfLoan_120 ?_
        refine lv_aload_n hx hb dM_dayOfLoan_121 rfl (lv_at hl 2 rfl) ?_
        refine va_get (v := .ref (b 14)) hx hb hg hin_M hown hK hP 0 rfl rfl 14 (by decide) (hg _ gw_508) (fun _ h => h) rfl dM_dayOfLoan_122 ?_
        refine lv_iload_n hx hb dM_dayOfLoan_125 rfl (lv_at hl 3 rfl) ?_
        refine kw_iald (v := σ 12 ln.toNatClampNeg) (j := ln.toNatClampNeg) hx hb hK hP 12 0 rfl rfl hln rfl rfl dM_dayOfLoan_126 ?_
        refine lv_isub hx hb dM_dayOfLoan_127 ?_
        refine kw_iast (w' := lm G b (σ 0 0) (σ 0 1) (σ 0 2) u_7 u_8 u_9 (σ 1) (σ 2) (σ 3) (σ 4) (σ 5) (σ 6) (σ 7) (σ 8) (σ 9) (σ 10) (upd (σ 11) ln.toNatClampNeg ((σ 11 ln.toNatClampNeg) - (σ 12 ln.toNatClampNeg))) (σ 12) (σ 13) (σ 14) (σ 15) (σ 16) (σ 17) (σ 18) (σ 19) (σ 20) (σ 21) (σ 22)) (j := ln.toNatClampNeg) hx hb hK hP hD hS 11 0 rfl rfl hln rfl dM_dayOfLoan_128 rfl (fun H locs hP hD hS => ?_)
        refine lv_aload_n hx hb dM_dayOfLoan_129 rfl (lv_at hl 2 rfl) ?_
        refine va_get (v := .ref (b 15)) hx hb hg hin_M hown hK hP 0 rfl rfl 15 (by decide) (hg _ gw_509) (fun _ h => h) rfl dM_dayOfLoan_130 ?_
        refine lv_iload_n hx hb dM_dayOfLoan_133 rfl (lv_at hl 3 rfl) ?_
        refine lv_aload_n hx hb dM_dayOfLoan_134 rfl (lv_at hl 2 rfl) ?_
        refine va_get (v := .ref (b 13)) hx hb hg hin_M hown hK hP 0 rfl rfl 13 (by decide) (hg _ gw_507) (fun _ h => h) rfl dM_dayOfLoan_135 ?_
        refine lv_iload_n hx hb dM_dayOfLoan_138 rfl (lv_at hl 3 rfl) ?_
        refine kw_iald (v := (upd (σ 11) ln.toNatClampNeg ((σ 11 ln.toNatClampNeg) - (σ 12 ln.toNatClampNeg))) ln.toNatClampNeg) (j := ln.toNatClampNeg) hx hb hK hP 11 0 rfl rfl hln rfl rfl dM_dayOfLoan_139 ?_
        refine kw_diamond (c9 := (0 : Int32) ≤ ((upd (σ 11) ln.toNatClampNeg ((σ 11 ln.toNatClampNeg) - (σ 12 ln.toNatClampNeg))) ln.toNatClampNeg)) (x := σ 12 ln.toNatClampNeg) (y := (σ 12 ln.toNatClampNeg) - ((upd (σ 11) ln.toNatClampNeg ((σ 11 ln.toNatClampNeg) - (σ 12 ln.toNatClampNeg))) ln.toNatClampNeg)) (g := fun z => F0 m 165 ls (.int z :: [.int ln, .ref (b 15)])) (fun jt jf => ?_) (fun z_31 e_32 => ?_)
        · skip
          refine lv_if_ge (tgt := 159) hx hb dM_dayOfLoan_140 (by decide) (fun h33 => ?_) (fun h33 => ?_)
          · skip
            refine lv_aload_n hx hb dM_dayOfLoan_159 rfl (lv_at hl 2 rfl) ?_
            refine va_get (v := .ref (b 14)) hx hb hg hin_M hown hK hP 0 rfl rfl 14 (by decide) (hg _ gw_508) (fun _ h => h) rfl dM_dayOfLoan_160 ?_
            refine lv_iload_n hx hb dM_dayOfLoan_163 rfl (lv_at hl 3 rfl) ?_
            refine kw_iald (v := σ 12 ln.toNatClampNeg) (j := ln.toNatClampNeg) hx hb hK hP 12 0 rfl rfl hln rfl rfl dM_dayOfLoan_164 ?_
            exact jt h33
          · skip
            refine lv_aload_n hx hb dM_dayOfLoan_143 rfl (lv_at hl 2 rfl) ?_
            refine va_get (v := .ref (b 14)) hx hb hg hin_M hown hK hP 0 rfl rfl 14 (by decide) (hg _ gw_508) (fun _ h => h) rfl dM_dayOfLoan_144 ?_
            refine lv_iload_n hx hb dM_dayOfLoan_147 rfl (lv_at hl 3 rfl) ?_
            refine kw_iald (v := σ 12 ln.toNatClampNeg) (j := ln.toNatClampNeg) hx hb hK hP 12 0 rfl rfl hln rfl rfl dM_dayOfLoan_148 ?_
            refine lv_aload_n hx hb dM_dayOfLoan_149 rfl (lv_at hl 2 rfl) ?_
            refine va_get (v := .ref (b 13)) hx hb hg hin_M hown hK hP 0 rfl rfl 13 (by decide) (hg _ gw_507) (fun _ h => h) rfl dM_dayOfLoan_150 ?_
            refine lv_iload_n hx hb dM_dayOfLoan_153 rfl (lv_at hl 3 rfl) ?_
            refine kw_iald (v := (upd (σ 11) ln.toNatClampNeg ((σ 11 ln.toNatClampNeg) - (σ 12 ln.toNatClampNeg))) ln.toNatClampNeg) (j := ln.toNatClampNeg) hx hb hK hP 11 0 rfl rfl hln rfl rfl dM_dayOfLoan_154 ?_
            refine lv_isub hx hb dM_dayOfLoan_155 ?_
            refine lv_goto (tgt := 165) hx hb dM_dayOfLoan_156 (by decide) ?_
            exact jf h33
        replace e_32 : aM_dayOfLoan_z_31 σ ln = z_31 := by subst e_5 e_11; exact e_32
        refine kp_reti (va_runS (As := [.int z_31]) (rest := [.int ln, .ref (b 15)]) ⟨hx, hb, hml, hown, hg⟩ (c_M_twelfth l z_31) ⟨kw_cB (n := 1) hg gw_659 gw_2 gw_657 (by decide +kernel) (by decide +kernel) ⟨Nat.le_of_ble_eq_true rfl, Nat.le_of_ble_eq_true rfl⟩ rfl rfl, hg _ gw_658⟩ kp_pre rfl rfl hl.1 rfl (lv_room (Nat.le_of_ble_eq_true rfl)) dM_dayOfLoan_165 ⟨Nat.le_of_ble_eq_true rfl, Nat.le_of_ble_eq_true rfl⟩) ?_
        refine lv_topi (fun r_34 e_35 => ?_)
        replace e_35 := e_35.symm
        replace e_35 : aM_dayOfLoan_r_34 σ ln = r_34 := by subst e_5 e_11 e_32; exact e_35
        refine kw_iast (w' := lm G b (σ 0 0) (σ 0 1) (σ 0 2) u_7 u_8 u_9 (σ 1) (σ 2) (σ 3) (σ 4) (σ 5) (σ 6) (σ 7) (σ 8) (σ 9) (σ 10) (upd (σ 11) ln.toNatClampNeg ((σ 11 ln.toNatClampNeg) - (σ 12 ln.toNatClampNeg))) (σ 12) (upd (σ 13) ln.toNatClampNeg r_34) (σ 14) (σ 15) (σ 16) (σ 17) (σ 18) (σ 19) (σ 20) (σ 21) (σ 22)) (j := ln.toNatClampNeg) hx hb hK hP hD hS 13 0 rfl rfl hln rfl dM_dayOfLoan_168 rfl (fun H locs hP hD hS => ?_)
        refine lv_aload_n hx hb dM_dayOfLoan_169 rfl (lv_at hl 2 rfl) ?_
        refine lv_iload_n hx hb dM_dayOfLoan_170 rfl (lv_at hl 3 rfl) ?_
        refine kx_retv0 (va_runV (C := RM) (As := [.int ln]) (rest := []) ⟨hx, hb, hml, hown, hg⟩ (c_M_accrue l D G b (mkM (σ 0 0) (σ 0 1) (σ 0 2) (σ 0 3) (σ 0 4) (σ 0 5) (σ 1) (σ 2) (σ 3) (σ 4) (σ 5) (σ 6) (σ 7) (σ 8) (σ 9) (σ 10) (upd (σ 11) ln.toNatClampNeg ((σ 11 ln.toNatClampNeg) - (σ 12 ln.toNatClampNeg))) (σ 12) (upd (σ 13) ln.toNatClampNeg r_34) (σ 14) (σ 15) (σ 16) (σ 17) (σ 18) (σ 19) (σ 20) (σ 21) (σ 22)) (u_7, u_8, u_9) ln _ hln hto) ⟨kw_cB (n := 1) hg gw_676 gw_2 gw_674 (by decide +kernel) (by decide +kernel) ⟨Nat.le_of_ble_eq_true rfl, Nat.le_of_ble_eq_true rfl⟩ rfl rfl, hg _ gw_675, hg _ gw_756⟩ (kw_preV (q0 := 0) hK hP hD rfl rfl) rfl rfl hl.1 rfl (lv_room (Nat.le_of_ble_eq_true rfl)) dM_dayOfLoan_171 ⟨Nat.le_of_ble_eq_true rfl, Nat.le_of_ble_eq_true rfl⟩) hP hD hS (fun _ h => Or.inr h) (fun u_36 u_37 u_38 H locs hP hD hS => ?_)
        obtain ⟨S_39, e_40⟩ : ∃ z : KS, (kM_accrue (mkM (σ 0 0) (σ 0 1) (σ 0 2) (σ 0 3) (σ 0 4) (σ 0 5) (σ 1) (σ 2) (σ 3) (σ 4) (σ 5) (σ 6) (σ 7) (σ 8) (σ 9) (σ 10) (upd (σ 11) ln.toNatClampNeg ((σ 11 ln.toNatClampNeg) - (σ 12 ln.toNatClampNeg))) (σ 12) (upd (σ 13) ln.toNatClampNeg r_34) (σ 14) (σ 15) (σ 16) (σ 17) (σ 18) (σ 19) (σ 20) (σ 21) (σ 22)) ln) = z := ⟨_, rfl⟩
        rw [e_40] at hP hD
        replace e_40 : aM_dayOfLoan_S_39 σ ln = S_39 := by subst e_5 e_11 e_32 e_35; exact e_40
        refine lv_aload_n hx hb dM_dayOfLoan_174 rfl (lv_at hl 2 rfl) ?_
        refine va_get (v := .ref (b 9)) hx hb hg hin_M hown hK hP 0 rfl rfl 9 (by decide) (hg _ gw_503) (fun _ h => h) rfl dM_dayOfLoan_175 ?_
        refine lv_iload_n hx hb dM_dayOfLoan_178 rfl (lv_at hl 3 rfl) ?_
        refine kw_iald (v := S_39 7 ln.toNatClampNeg) (j := ln.toNatClampNeg) hx hb hK hP 7 0 rfl rfl hln rfl rfl dM_dayOfLoan_179 ?_
        refine lv_if_ne (tgt := 194) hx hb dM_dayOfLoan_180 (by decide) (fun h41 => ?_) (fun h41 => ?_)
        · skip
          refine lv_aload_n hx hb dM_dayOfLoan_194 rfl (lv_at hl 2 rfl) ?_
          refine lv_iload_n hx hb dM_dayOfLoan_195 rfl (lv_at hl 3 rfl) ?_
          refine lv_iload hx hb dM_dayOfLoan_196 (lv_at hl 0 rfl) ?_
          refine kx_retv0 (va_runV (C := RM) (As := [.int ln, .int r_10]) (rest := []) ⟨hx, hb, hml, hown, hg⟩ (c_M_makeBill l D G b S_39 (u_36, u_37, u_38) ln r_10 _ hln (by subst e_5 e_11 e_32 e_35 e_40; exact hbl)) ⟨kw_cB (n := 2) hg gw_679 gw_2 gw_677 (by decide +kernel) (by decide +kernel) ⟨Nat.le_of_ble_eq_true rfl, Nat.le_of_ble_eq_true rfl⟩ rfl rfl, hg _ gw_678, hg _ gw_757⟩ (kw_preV (q0 := 0) hK hP hD rfl rfl) rfl rfl hl.1 rfl (lv_room (Nat.le_of_ble_eq_true rfl)) dM_dayOfLoan_198 ⟨Nat.le_of_ble_eq_true rfl, Nat.le_of_ble_eq_true rfl⟩) hP hD hS (fun _ h => Or.inr h) (fun u_42 u_43 u_44 H locs hP hD hS => ?_)
          obtain ⟨S_45, e_46⟩ : ∃ z : KS, (kM_makeBill S_39 ln r_10) = z := ⟨_, rfl⟩
          rw [e_46] at hP hD
          replace e_46 : aM_dayOfLoan_S_45 σ ln = S_45 := by subst e_5 e_11 e_32 e_35 e_40; exact e_46
          refine lv_iconst (v := 1) hx hb dM_dayOfLoan_201 (by decide) ?_
          have hk9 : kM_dayOfLoan σ ln = (1, S_45) := by subst e_5 e_11 e_32 e_35 e_40 e_46; unfold kM_dayOfLoan; rw [if_pos h6, if_neg h12, if_pos h13, if_neg h41]
          exact kx_iret hx hb hr hlocks hK hP hD hS (by rw [hk9]) (u := (u_42, u_43, u_44)) (by rw [hk9] <;> rfl) dM_dayOfLoan_202
        · skip
          refine lv_aload_n hx hb dM_dayOfLoan_183 rfl (lv_at hl 2 rfl) ?_
          refine va_get (v := .ref (b 11)) hx hb hg hin_M hown hK hP 0 rfl rfl 11 (by decide) (hg _ gw_505) (fun _ h => h) rfl dM_dayOfLoan_184 ?_
          refine lv_iload_n hx hb dM_dayOfLoan_187 rfl (lv_at hl 3 rfl) ?_
          refine kw_iald (v := S_39 9 ln.toNatClampNeg) (j := ln.toNatClampNeg) hx hb hK hP 9 0 rfl rfl hln rfl rfl dM_dayOfLoan_188 ?_
          refine lv_if_ne (tgt := 194) hx hb dM_dayOfLoan_189 (by decide) (fun h47 => ?_) (fun h47 => ?_)
          · skip
            refine lv_aload_n hx hb dM_dayOfLoan_194 rfl (lv_at hl 2 rfl) ?_
            refine lv_iload_n hx hb dM_dayOfLoan_195 rfl (lv_at hl 3 rfl) ?_
            refine lv_iload hx hb dM_dayOfLoan_196 (lv_at hl 0 rfl) ?_
            refine kx_retv0 (va_runV (C := RM) (As := [.int ln, .int r_10]) (rest := []) ⟨hx, hb, hml, hown, hg⟩ (c_M_makeBill l D G b S_39 (u_36, u_37, u_38) ln r_10 _ hln (by subst e_5 e_11 e_32 e_35 e_40; exact hbl)) ⟨kw_cB (n := 2) hg gw_679 gw_2 gw_677 (by decide +kernel) (by decide +kernel) ⟨Nat.le_of_ble_eq_true rfl, Nat.le_of_ble_eq_true rfl⟩ rfl rfl, hg _ gw_678, hg _ gw_757⟩ (kw_preV (q0 := 0) hK hP hD rfl rfl) rfl rfl hl.1 rfl (lv_room (Nat.le_of_ble_eq_true rfl)) dM_dayOfLoan_198 ⟨Nat.le_of_ble_eq_true rfl, Nat.le_of_ble_eq_true rfl⟩) hP hD hS (fun _ h => Or.inr h) (fun u_48 u_49 u_50 H locs hP hD hS => ?_)
            obtain ⟨S_51, e_52⟩ : ∃ z : KS, (kM_makeBill S_39 ln r_10) = z := ⟨_, rfl⟩
            rw [e_52] at hP hD
            replace e_52 : aM_dayOfLoan_S_51 σ ln = S_51 := by subst e_5 e_11 e_32 e_35 e_40; exact e_52
            refine lv_iconst (v := 1) hx hb dM_dayOfLoan_201 (by decide) ?_
            have hk9 : kM_dayOfLoan σ ln = (1, S_51) := by subst e_5 e_11 e_32 e_35 e_40 e_52; unfold kM_dayOfLoan; rw [if_pos h6, if_neg h12, if_pos h13, if_pos h41, if_neg h47]
            exact kx_iret hx hb hr hlocks hK hP hD hS (by rw [hk9]) (u := (u_48, u_49, u_50)) (by rw [hk9] <;> rfl) dM_dayOfLoan_202
          · skip
            refine lv_iconst (v := 0) hx hb dM_dayOfLoan_192 (by decide) ?_
            have hk9 : kM_dayOfLoan σ ln = (0, S_39) := by subst e_5 e_11 e_32 e_35 e_40; unfold kM_dayOfLoan; rw [if_pos h6, if_neg h12, if_pos h13, if_pos h41, if_pos h47]
            exact kx_iret hx hb hr hlocks hK hP hD hS (by rw [hk9]) (u := (u_36, u_37, u_38)) (by rw [hk9] <;> rfl) dM_dayOfLoan_193
    · skip
      refine lv_iconst (v := 0) hx hb dM_dayOfLoan_100 (by decide) ?_
      have hk9 : kM_dayOfLoan σ ln = (0, σ) := by subst e_5 e_11; unfold kM_dayOfLoan; rw [if_pos h6, if_pos h12]
      exact kx_iret hx hb hr hlocks hK hP hD hS (by rw [hk9]) (u := (u_7, u_8, u_9)) (by rw [hk9] <;> rfl) dM_dayOfLoan_101
  · skip
    refine lv_lload_n hx hb dM_dayOfLoan_51 rfl (lv_at hl 0 rfl) ?_
    refine lv_lconst (v := 0) hx hb dM_dayOfLoan_52 (by decide) ?_
    refine W.lcmp hx hb dM_dayOfLoan_53 ?_
    refine lv_if_le (tgt := 88) hx hb dM_dayOfLoan_54 (by decide) (fun h53 => ?_) (fun h53 => ?_)
    · skip
      refine lv_aload_n hx hb dM_dayOfLoan_88 rfl (lv_at hl 1 rfl) ?_
      refine lv_iload_n hx hb dM_dayOfLoan_89 rfl (lv_at hl 2 rfl) ?_
      refine kx_reti0 (va_runV (C := RM) (As := [.int ln]) (rest := []) ⟨hx, hb, hml, hown, hg⟩ (c_M_whichDue l D G b σ (u_1, u_2, u_3) ln _ hln) ⟨kw_cB (n := 1) hg gw_673 gw_2 gw_671 (by decide +kernel) (by decide +kernel) ⟨Nat.le_of_ble_eq_true rfl, Nat.le_of_ble_eq_true rfl⟩ rfl rfl, hg _ gw_672, hg _ gw_755⟩ (kw_preV (q0 := 0) hK hP hD rfl rfl) rfl rfl hl.1 rfl (lv_room (Nat.le_of_ble_eq_true rfl)) dM_dayOfLoan_90 ⟨Nat.le_of_ble_eq_true rfl, Nat.le_of_ble_eq_true rfl⟩) hP hD hS (fun _ h => Or.inr h) (fun u_54 u_55 u_56 H locs hP hD hS => ?_)
      refine lv_topi (fun r_57 e_58 => ?_)
      replace e_58 := e_58.symm
      replace e_58 : aM_dayOfLoan_r_57 σ ln = r_57 := by subst e_5; exact e_58
      refine lv_istore hx hb dM_dayOfLoan_93 hl (by decide) rfl (fun ls hl => ?_)
      have hl : lv_has ls 5 [(4, .int r_57), (2, .long ((((σ 14 (((4 * ln) + 1).toNatClampNeg)).toInt64) + ((σ 14 (((4 * ln) + 2).toNatClampNeg)).toInt64)) + ((σ 14 (((4 * ln) + 3).toNatClampNeg)).toInt64))), (0, .ref (b 0)), (1, .int ln)] := hl
      refine lv_iload hx hb dM_dayOfLoan_95 (lv_at hl 0 rfl) ?_
      refine lv_if_ne (tgt := 102) hx hb dM_dayOfLoan_97 (by decide) (fun h59 => ?_) (fun h59 => ?_)
      · skip
        refine lv_iload hx hb dM_dayOfLoan_102 (lv_at hl 0 rfl) ?_
        refine lv_bipush (v := 12) hx hb dM_dayOfLoan_104 (by decide) ?_
        refine lv_irem hx hb dM_dayOfLoan_106 (by decide) ?_
        refine lv_if_ne (tgt := 169) hx hb dM_dayOfLoan_107 (by decide) (fun h60 => ?_) (fun h60 => ?_)
        · skip
          refine lv_aload_n hx hb dM_dayOfLoan_169 rfl (lv_at hl 2 rfl) ?_
          refine lv_iload_n hx hb dM_dayOfLoan_170 rfl (lv_at hl 3 rfl) ?_
          refine kx_retv0 (va_runV (C := RM) (As := [.int ln]) (rest := []) ⟨hx, hb, hml, hown, hg⟩ (c_M_accrue l D G b σ (u_54, u_55, u_56) ln _ hln hto) ⟨kw_cB (n := 1) hg gw_676 gw_2 gw_674 (by decide +kernel) (by decide +kernel) ⟨Nat.le_of_ble_eq_true rfl, Nat.le_of_ble_eq_true rfl⟩ rfl rfl, hg _ gw_675, hg _ gw_756⟩ (kw_preV (q0 := 0) hK hP hD rfl rfl) rfl rfl hl.1 rfl (lv_room (Nat.le_of_ble_eq_true rfl)) dM_dayOfLoan_171 ⟨Nat.le_of_ble_eq_true rfl, Nat.le_of_ble_eq_true rfl⟩) hP hD hS (fun _ h => Or.inr h) (fun u_61 u_62 u_63 H locs hP hD hS => ?_)
          obtain ⟨S_64, e_65⟩ : ∃ z : KS, (kM_accrue σ ln) = z := ⟨_, rfl⟩
          rw [e_65] at hP hD
          replace e_65 : aM_dayOfLoan_S_64 σ ln = S_64 := by subst e_5 e_58; exact e_65
          refine lv_aload_n hx hb dM_dayOfLoan_174 rfl (lv_at hl 2 rfl) ?_
          refine va_get (v := .ref (b 9)) hx hb hg hin_M hown hK hP 0 rfl rfl 9 (by decide) (hg _ gw_503) (fun _ h => h) rfl dM_dayOfLoan_175 ?_
          refine lv_iload_n hx hb dM_dayOfLoan_178 rfl (lv_at hl 3 rfl) ?_
          refine kw_iald (v := S_64 7 ln.toNatClampNeg) (j := ln.toNatClampNeg) hx hb hK hP 7 0 rfl rfl hln rfl rfl dM_dayOfLoan_179 ?_
          refine lv_if_ne (tgt := 194) hx hb dM_dayOfLoan_180 (by decide) (fun h66 => ?_) (fun h66 => ?_)
          · skip
            refine lv_aload_n hx hb dM_dayOfLoan_194 rfl (lv_at hl 2 rfl) ?_
            refine lv_iload_n hx hb dM_dayOfLoan_195 rfl (lv_at hl 3 rfl) ?_
            refine lv_iload hx hb dM_dayOfLoan_196 (lv_at hl 0 rfl) ?_
            refine kx_retv0 (va_runV (C := RM) (As := [.int ln, .int r_57]) (rest := []) ⟨hx, hb, hml, hown, hg⟩ (c_M_makeBill l D G b S_64 (u_61, u_62, u_63) ln r_57 _ hln (by subst e_5 e_58 e_65; exact hbl)) ⟨kw_cB (n := 2) hg gw_679 gw_2 gw_677 (by decide +kernel) (by decide +kernel) ⟨Nat.le_of_ble_eq_true rfl, Nat.le_of_ble_eq_true rfl⟩ rfl rfl, hg _ gw_678, hg _ gw_757⟩ (kw_preV (q0 := 0) hK hP hD rfl rfl) rfl rfl hl.1 rfl (lv_room (Nat.le_of_ble_eq_true rfl)) dM_dayOfLoan_198 ⟨Nat.le_of_ble_eq_true rfl, Nat.le_of_ble_eq_true rfl⟩) hP hD hS (fun _ h => Or.inr h) (fun u_67 u_68 u_69 H locs hP hD hS => ?_)
            obtain ⟨S_70, e_71⟩ : ∃ z : KS, (kM_makeBill S_64 ln r_57) = z := ⟨_, rfl⟩
            rw [e_71] at hP hD
            replace e_71 : aM_dayOfLoan_S_70 σ ln = S_70 := by subst e_5 e_58 e_65; exact e_71
            refine lv_iconst (v := 1) hx hb dM_dayOfLoan_201 (by decide) ?_
            have hk9 : kM_dayOfLoan σ ln = (1, S_70) := by subst e_5 e_58 e_65 e_71; unfold kM_dayOfLoan; rw [if_neg h6, if_pos h53, if_neg h59, if_neg h60, if_neg h66]
            exact kx_iret hx hb hr hlocks hK hP hD hS (by rw [hk9]) (u := (u_67, u_68, u_69)) (by rw [hk9] <;> rfl) dM_dayOfLoan_202
          · skip
            refine lv_aload_n hx hb dM_dayOfLoan_183 rfl (lv_at hl 2 rfl) ?_
            refine va_get (v := .ref (b 11)) hx hb hg hin_M hown hK hP 0 rfl rfl 11 (by decide) (hg _ gw_505) (fun _ h => h) rfl dM_dayOfLoan_184 ?_
            refine lv_iload_n hx hb dM_dayOfLoan_187 rfl (lv_at hl 3 rfl) ?_
            refine kw_iald (v := S_64 9 ln.toNatClampNeg) (j := ln.toNatClampNeg) hx hb hK hP 9 0 rfl rfl hln rfl rfl dM_dayOfLoan_188 ?_
            refine lv_if_ne (tgt := 194) hx hb dM_dayOfLoan_189 (by decide) (fun h72 => ?_) (fun h72 => ?_)
            · skip
              refine lv_aload_n hx hb dM_dayOfLoan_194 rfl (lv_at hl 2 rfl) ?_
              refine lv_iload_n hx hb dM_dayOfLoan_195 rfl (lv_at hl 3 rfl) ?_
              refine lv_iload hx hb dM_dayOfLoan_196 (lv_at hl 0 rfl) ?_
              refine kx_retv0 (va_runV (C := RM) (As := [.int ln, .int r_57]) (rest := []) ⟨hx, hb, hml, hown, hg⟩ (c_M_makeBill l D G b S_64 (u_61, u_62, u_63) ln r_57 _ hln (by subst e_5 e_58 e_65; exact hbl)) ⟨kw_cB (n := 2) hg gw_679 gw_2 gw_677 (by decide +kernel) (by decide +kernel) ⟨Nat.le_of_ble_eq_true rfl, Nat.le_of_ble_eq_true rfl⟩ rfl rfl, hg _ gw_678, hg _ gw_757⟩ (kw_preV (q0 := 0) hK hP hD rfl rfl) rfl rfl hl.1 rfl (lv_room (Nat.le_of_ble_eq_true rfl)) dM_dayOfLoan_198 ⟨Nat.le_of_ble_eq_true rfl, Nat.le_of_ble_eq_true rfl⟩) hP hD hS (fun _ h => Or.inr h) (fun u_73 u_74 u_75 H locs hP hD hS => ?_)
              obtain ⟨S_76, e_77⟩ : ∃ z : KS, (kM_makeBill S_64 ln r_57) = z := ⟨_, rfl⟩
              rw [e_77] at hP hD
              replace e_77 : aM_dayOfLoan_S_76 σ ln = S_76 := by subst e_5 e_58 e_65; exact e_77
              refine lv_iconst (v := 1) hx hb dM_dayOfLoan_201 (by decide) ?_
              have hk9 : kM_dayOfLoan σ ln = (1, S_76) := by subst e_5 e_58 e_65 e_77; unfold kM_dayOfLoan; rw [if_neg h6, if_pos h53, if_neg h59, if_neg h60, if_pos h66, if_neg h72]
              exact kx_iret hx hb hr hlocks hK hP hD hS (by rw [hk9]) (u := (u_73, u_74, u_75)) (by rw [hk9] <;> rfl) dM_dayOfLoan_202
            · skip
              refine lv_iconst (v := 0) hx hb dM_dayOfLoan_192 (by decide) ?_
              have hk9 : kM_dayOfLoan σ ln = (0, S_64) := by subst e_5 e_58 e_65; unfold kM_dayOfLoan; rw [if_neg h6, if_pos h53, if_neg h59, if_neg h60, if_pos h66, if_pos h72]
              exact kx_iret hx hb hr hlocks hK hP hD hS (by rw [hk9]) (u := (u_61, u_62, u_63)) (by rw [hk9] <;> rfl) dM_dayOfLoan_193
        · skip
          refine lv_aload_n hx hb dM_dayOfLoan_110 rfl (lv_at hl 2 rfl) ?_
          refine va_get (v := .ref (b 13)) hx hb hg hin_M hown hK hP 0 rfl rfl 13 (by decide) (hg _ gw_507) (fun _ h => h) rfl dM_dayOfLoan_111 ?_
          refine lv_iload_n hx hb dM_dayOfLoan_114 rfl (lv_at hl 3 rfl) ?_
          refine lv_aload_n hx hb dM_dayOfLoan_115 rfl (lv_at hl 2 rfl) ?_
          refine va_get (v := .ref (b 13)) hx hb hg hin_M hown hK hP 0 rfl rfl 13 (by decide) (hg _ gw_507) (fun _ h => h) rfl dM_dayOfLoan_116 ?_
          refine lv_iload_n hx hb dM_dayOfLoan_119 rfl (lv_at hl 3 rfl) ?_
          refine kw_iald (v := σ 11 ln.toNatClampNeg) (j := ln.toNatClampNeg) hx hb hK hP 11 0 rfl rfl hln rfl rfl dM_dayOfLoan_120 ?_
          refine lv_aload_n hx hb dM_dayOfLoan_121 rfl (lv_at hl 2 rfl) ?_
          refine va_get (v := .ref (b 14)) hx hb hg hin_M hown hK hP 0 rfl rfl 14 (by decide) (hg _ gw_508) (fun _ h => h) rfl dM_dayOfLoan_122 ?_
          refine lv_iload_n hx hb dM_dayOfLoan_125 rfl (lv_at hl 3 rfl) ?_
          refine kw_iald (v := σ 12 ln.toNatClampNeg) (j := ln.toNatClampNeg) hx hb hK hP 12 0 rfl rfl hln rfl rfl dM_dayOfLoan_126 ?_
          refine lv_isub hx hb dM_dayOfLoan_127 ?_
          refine kw_iast (w' := lm G b (σ 0 0) (σ 0 1) (σ 0 2) u_54 u_55 u_56 (σ 1) (σ 2) (σ 3) (σ 4) (σ 5) (σ 6) (σ 7) (σ 8) (σ 9) (σ 10) (upd (σ 11) ln.toNatClampNeg ((σ 11 ln.toNatClampNeg) - (σ 12 ln.toNatClampNeg))) (σ 12) (σ 13) (σ 14) (σ 15) (σ 16) (σ 17) (σ 18) (σ 19) (σ 20) (σ 21) (σ 22)) (j := ln.toNatClampNeg) hx hb hK hP hD hS 11 0 rfl rfl hln rfl dM_dayOfLoan_128 rfl (fun H locs hP hD hS => ?_)
          refine lv_aload_n hx hb dM_dayOfLoan_129 rfl (lv_at hl 2 rfl) ?_
          refine va_get (v := .ref (b 15)) hx hb hg hin_M hown hK hP 0 rfl rfl 15 (by decide) (hg _ gw_509) (fun _ h => h) rfl dM_dayOfLoan_130 ?_
          refine lv_iload_n hx hb dM_dayOfLoan_133 rfl (lv_at hl 3 rfl) ?_
          refine lv_aload_n hx hb dM_dayOfLoan_134 rfl (lv_at hl 2 rfl) ?_
          refine va_get (v := .ref (b 13)) hx hb hg hin_M hown hK hP 0 rfl rfl 13 (by decide) (hg _ gw_507) (fun _ h => h) rfl dM_dayOfLoan_135 ?_
          refine lv_iload_n hx hb dM_dayOfLoan_138 rfl (lv_at hl 3 rfl) ?_
          refine kw_iald (v := (upd (σ 11) ln.toNatClampNeg ((σ 11 ln.toNatClampNeg) - (σ 12 ln.toNatClampNeg))) ln.toNatClampNeg) (j := ln.toNatClampNeg) hx hb hK hP 11 0 rfl rfl hln rfl rfl dM_dayOfLoan_139 ?_
          refine kw_diamond (c9 := (0 : Int32) ≤ ((upd (σ 11) ln.toNatClampNeg ((σ 11 ln.toNatClampNeg) - (σ 12 ln.toNatClampNeg))) ln.toNatClampNeg)) (x := σ 12 ln.toNatClampNeg) (y := (σ 12 ln.toNatClampNeg) - ((upd (σ 11) ln.toNatClampNeg ((σ 11 ln.toNatClampNeg) - (σ 12 ln.toNatClampNeg))) ln.toNatClampNeg)) (g := fun z => F0 m 165 ls (.int z :: [.int ln, .ref (b 15)])) (fun jt jf => ?_) (fun z_78 e_79 => ?_)
          · skip
            refine lv_if_ge (tgt := 159) hx hb dM_dayOfLoan_140 (by decide) (fun h80 => ?_) (fun h80 => ?_)
            · skip
              refine lv_aload_n hx hb dM_dayOfLoan_159 rfl (lv_at hl 2 rfl) ?_
              refine va_get (v := .ref (b 14)) hx hb hg hin_M hown hK hP 0 rfl rfl 14 (by decide) (hg _ gw_508) (fun _ h => h) rfl dM_dayOfLoan_160 ?_
              refine lv_iload_n hx hb dM_dayOfLoan_163 rfl (lv_at hl 3 rfl) ?_
              refine kw_iald (v := σ 12 ln.toNatClampNeg) (j := ln.toNatClampNeg) hx hb hK hP 12 0 rfl rfl hln rfl rfl dM_dayOfLoan_164 ?_
              exact jt h80
            · skip
              refine lv_aload_n hx hb dM_dayOfLoan_143 rfl (lv_at hl 2 rfl) ?_
              refine va_get (v := .ref (b 14)) hx hb hg hin_M hown hK hP 0 rfl rfl 14 (by decide) (hg _ gw_508) (fun _ h => h) rfl dM_dayOfLoan_144 ?_
              refine lv_iload_n hx hb dM_dayOfLoan_147 rfl (lv_at hl 3 rfl) ?_
              refine kw_iald (v := σ 12 ln.toNatClampNeg) (j := ln.toNatClampNeg) hx hb hK hP 12 0 rfl rfl hln rfl rfl dM_dayOfLoan_148 ?_
              refine lv_aload_n hx hb dM_dayOfLoan_149 rfl (lv_at hl 2 rfl) ?_
              refine va_get (v := .ref (b 13)) hx hb hg hin_M hown hK hP 0 rfl rfl 13 (by decide) (hg _ gw_507) (fun _ h => h) rfl dM_dayOfLoan_150 ?_
              refine lv_iload_n hx hb dM_dayOfLoan_153 rfl (lv_at hl 3 rfl) ?_
              refine kw_iald (v := (upd (σ 11) ln.toNatClampNeg ((σ 11 ln.toNatClampNeg) - (σ 12 ln.toNatClampNeg))) ln.toNatClampNeg) (j := ln.toNatClampNeg) hx hb hK hP 11 0 rfl rfl hln rfl rfl dM_dayOfLoan_154 ?_
              refine lv_isub hx hb dM_dayOfLoan_155 ?_
              refine lv_goto (tgt := 165) hx hb dM_dayOfLoan_156 (by decide) ?_
              exact jf h80
          replace e_79 : aM_dayOfLoan_z_78 σ ln = z_78 := by subst e_5 e_58; exact e_79
          refine kp_reti (va_runS (As := [.int z_78]) (rest := [.int ln, .ref (b 15)]) ⟨hx, hb, hml, hown, hg⟩ (c_M_twelfth l z_78) ⟨kw_cB (n := 1) hg gw_659 gw_2 gw_657 (by decide +kernel) (by decide +kernel) ⟨Nat.le_of_ble_eq_true rfl, Nat.le_of_ble_eq_true rfl⟩ rfl rfl, hg _ gw_658⟩ kp_pre rfl rfl hl.1 rfl (lv_room (Nat.le_of_ble_eq_true rfl)) dM_dayOfLoan_165 ⟨Nat.le_of_ble_eq_true rfl, Nat.le_of_ble_eq_true rfl⟩) ?_
          refine lv_topi (fun r_81 e_82 => ?_)
          replace e_82 := e_82.symm
          replace e_82 : aM_dayOfLoan_r_81 σ ln = r_81 := by subst e_5 e_58 e_79; exact e_82
          refine kw_iast (w' := lm G b (σ 0 0) (σ 0 1) (σ 0 2) u_54 u_55 u_56 (σ 1) (σ 2) (σ 3) (σ 4) (σ 5) (σ 6) (σ 7) (σ 8) (σ 9) (σ 10) (upd (σ 11) ln.toNatClampNeg ((σ 11 ln.toNatClampNeg) - (σ 12 ln.toNatClampNeg))) (σ 12) (upd (σ 13) ln.toNatClampNeg r_81) (σ 14) (σ 15) (σ 16) (σ 17) (σ 18) (σ 19) (σ 20) (σ 21) (σ 22)) (j := ln.toNatClampNeg) hx hb hK hP hD hS 13 0 rfl rfl hln rfl dM_dayOfLoan_168 rfl (fun H locs hP hD hS => ?_)
          refine lv_aload_n hx hb dM_dayOfLoan_169 rfl (lv_at hl 2 rfl) ?_
          refine lv_iload_n hx hb dM_dayOfLoan_170 rfl (lv_at hl 3 rfl) ?_
          refine kx_retv0 (va_runV (C := RM) (As := [.int ln]) (rest := []) ⟨hx, hb, hml, hown, hg⟩ (c_M_accrue l D G b (mkM (σ 0 0) (σ 0 1) (σ 0 2) (σ 0 3) (σ 0 4) (σ 0 5) (σ 1) (σ 2) (σ 3) (σ 4) (σ 5) (σ 6) (σ 7) (σ 8) (σ 9) (σ 10) (upd (σ 11) ln.toNatClampNeg ((σ 11 ln.toNatClampNeg) - (σ 12 ln.toNatClampNeg))) (σ 12) (upd (σ 13) ln.toNatClampNeg r_81) (σ 14) (σ 15) (σ 16) (σ 17) (σ 18) (σ 19) (σ 20) (σ 21) (σ 22)) (u_54, u_55, u_56) ln _ hln hto) ⟨kw_cB (n := 1) hg gw_676 gw_2 gw_674 (by decide +kernel) (by decide +kernel) ⟨Nat.le_of_ble_eq_true rfl, Nat.le_of_ble_eq_true rfl⟩ rfl rfl, hg _ gw_675, hg _ gw_756⟩ (kw_preV (q0 := 0) hK hP hD rfl rfl) rfl rfl hl.1 rfl (lv_room (Nat.le_of_ble_eq_true rfl)) dM_dayOfLoan_171 ⟨Nat.le_of_ble_eq_true rfl, Nat.le_of_ble_eq_true rfl⟩) hP hD hS (fun _ h => Or.inr h) (fun u_83 u_84 u_85 H locs hP hD hS => ?_)
          obtain ⟨S_86, e_87⟩ : ∃ z : KS, (kM_accrue (mkM (σ 0 0) (σ 0 1) (σ 0 2) (σ 0 3) (σ 0 4) (σ 0 5) (σ 1) (σ 2) (σ 3) (σ 4) (σ 5) (σ 6) (σ 7) (σ 8) (σ 9) (σ 10) (upd (σ 11) ln.toNatClampNeg ((σ 11 ln.toNatClampNeg) - (σ 12 ln.toNatClampNeg))) (σ 12) (upd (σ 13) ln.toNatClampNeg r_81) (σ 14) (σ 15) (σ 16) (σ 17) (σ 18) (σ 19) (σ 20) (σ 21) (σ 22)) ln) = z := ⟨_, rfl⟩
          rw [e_87] at hP hD
          replace e_87 : aM_dayOfLoan_S_86 σ ln = S_86 := by subst e_5 e_58 e_79 e_82; exact e_87
          refine lv_aload_n hx hb dM_dayOfLoan_174 rfl (lv_at hl 2 rfl) ?_
          refine va_get (v := .ref (b 9)) hx hb hg hin_M hown hK hP 0 rfl rfl 9 (by decide) (hg _ gw_503) (fun _ h => h) rfl dM_dayOfLoan_175 ?_
          refine lv_iload_n hx hb dM_dayOfLoan_178 rfl (lv_at hl 3 rfl) ?_
          refine kw_iald (v := S_86 7 ln.toNatClampNeg) (j := ln.toNatClampNeg) hx hb hK hP 7 0 rfl rfl hln rfl rfl dM_dayOfLoan_179 ?_
          refine lv_if_ne (tgt := 194) hx hb dM_dayOfLoan_180 (by decide) (fun h88 => ?_) (fun h88 => ?_)
          · skip
            refine lv_aload_n hx hb dM_dayOfLoan_194 rfl (lv_at hl 2 rfl) ?_
            refine lv_iload_n hx hb dM_dayOfLoan_195 rfl (lv_at hl 3 rfl) ?_
            refine lv_iload hx hb dM_dayOfLoan_196 (lv_at hl 0 rfl) ?_
            refine kx_retv0 (va_runV (C := RM) (As := [.int ln, .int r_57]) (rest := []) ⟨hx, hb, hml, hown, hg⟩ (c_M_makeBill l D G b S_86 (u_83, u_84, u_85) ln r_57 _ hln (by subst e_5 e_58 e_79 e_82 e_87; exact hbl)) ⟨kw_cB (n := 2) hg gw_679 gw_2 gw_677 (by decide +kernel) (by decide +kernel) ⟨Nat.le_of_ble_eq_true rfl, Nat.le_of_ble_eq_true rfl⟩ rfl rfl, hg _ gw_678, hg _ gw_757⟩ (kw_preV (q0 := 0) hK hP hD rfl rfl) rfl rfl hl.1 rfl (lv_room (Nat.le_of_ble_eq_true rfl)) dM_dayOfLoan_198 ⟨Nat.le_of_ble_eq_true rfl, Nat.le_of_ble_eq_true rfl⟩) hP hD hS (fun _ h => Or.inr h) (fun u_89 u_90 u_91 H locs hP hD hS => ?_)
            obtain ⟨S_92, e_93⟩ : ∃ z : KS, (kM_makeBill S_86 ln r_57) = z := ⟨_, rfl⟩
            rw [e_93] at hP hD
            replace e_93 : aM_dayOfLoan_S_92 σ ln = S_92 := by subst e_5 e_58 e_79 e_82 e_87; exact e_93
            refine lv_iconst (v := 1) hx hb dM_dayOfLoan_201 (by decide) ?_
            have hk9 : kM_dayOfLoan σ ln = (1, S_92) := by subst e_5 e_58 e_79 e_82 e_87 e_93; unfold kM_dayOfLoan; rw [if_neg h6, if_pos h53, if_neg h59, if_pos h60, if_neg h88]
            exact kx_iret hx hb hr hlocks hK hP hD hS (by rw [hk9]) (u := (u_89, u_90, u_91)) (by rw [hk9] <;> rfl) dM_dayOfLoan_202
          · skip
            refine lv_aload_n hx hb dM_dayOfLoan_183 rfl (lv_at hl 2 rfl) ?_
            refine va_get (v := .ref (b 11)) hx hb hg hin_M hown hK hP 0 rfl rfl 11 (by decide) (hg _ gw_505) (fun _ h => h) rfl dM_dayOfLoan_184 ?_
            refine lv_iload_n hx hb dM_dayOfLoan_187 rfl (lv_at hl 3 rfl) ?_
            refine kw_iald (v := S_86 9 ln.toNatClampNeg) (j := ln.toNatClampNeg) hx hb hK hP 9 0 rfl rfl hln rfl rfl dM_dayOfLoan_188 ?_
            refine lv_if_ne (tgt := 194) hx hb dM_dayOfLoan_189 (by decide) (fun h94 => ?_) (fun h94 => ?_)
            · skip
              refine lv_aload_n hx hb dM_dayOfLoan_194 rfl (lv_at hl 2 rfl) ?_
              refine lv_iload_n hx hb dM_dayOfLoan_195 rfl (lv_at hl 3 rfl) ?_
              refine lv_iload hx hb dM_dayOfLoan_196 (lv_at hl 0 rfl) ?_
              refine kx_retv0 (va_runV (C := RM) (As := [.int ln, .int r_57]) (rest := []) ⟨hx, hb, hml, hown, hg⟩ (c_M_makeBill l D G b S_86 (u_83, u_84, u_85) ln r_57 _ hln (by subst e_5 e_58 e_79 e_82 e_87; exact hbl)) ⟨kw_cB (n := 2) hg gw_679 gw_2 gw_677 (by decide +kernel) (by decide +kernel) ⟨Nat.le_of_ble_eq_true rfl, Nat.le_of_ble_eq_true rfl⟩ rfl rfl, hg _ gw_678, hg _ gw_757⟩ (kw_preV (q0 := 0) hK hP hD rfl rfl) rfl rfl hl.1 rfl (lv_room (Nat.le_of_ble_eq_true rfl)) dM_dayOfLoan_198 ⟨Nat.le_of_ble_eq_true rfl, Nat.le_of_ble_eq_true rfl⟩) hP hD hS (fun _ h => Or.inr h) (fun u_95 u_96 u_97 H locs hP hD hS => ?_)
              obtain ⟨S_98, e_99⟩ : ∃ z : KS, (kM_makeBill S_86 ln r_57) = z := ⟨_, rfl⟩
              rw [e_99] at hP hD
              replace e_99 : aM_dayOfLoan_S_98 σ ln = S_98 := by subst e_5 e_58 e_79 e_82 e_87; exact e_99
              refine lv_iconst (v := 1) hx hb dM_dayOfLoan_201 (by decide) ?_
              have hk9 : kM_dayOfLoan σ ln = (1, S_98) := by subst e_5 e_58 e_79 e_82 e_87 e_99; unfold kM_dayOfLoan; rw [if_neg h6, if_pos h53, if_neg h59, if_pos h60, if_pos h88, if_neg h94]
              exact kx_iret hx hb hr hlocks hK hP hD hS (by rw [hk9]) (u := (u_95, u_96, u_97)) (by rw [hk9] <;> rfl) dM_dayOfLoan_202
            · skip
              refine lv_iconst (v := 0) hx hb dM_dayOfLoan_192 (by decide) ?_
              have hk9 : kM_dayOfLoan σ ln = (0, S_86) := by subst e_5 e_58 e_79 e_82 e_87; unfold kM_dayOfLoan; rw [if_neg h6, if_pos h53, if_neg h59, if_pos h60, if_pos h88, if_pos h94]
              exact kx_iret hx hb hr hlocks hK hP hD hS (by rw [hk9]) (u := (u_83, u_84, u_85)) (by rw [hk9] <;> rfl) dM_dayOfLoan_193
      · skip
        refine lv_iconst (v := 0) hx hb dM_dayOfLoan_100 (by decide) ?_
        have hk9 : kM_dayOfLoan σ ln = (0, σ) := by subst e_5 e_58; unfold kM_dayOfLoan; rw [if_neg h6, if_pos h53, if_pos h59]
        exact kx_iret hx hb hr hlocks hK hP hD hS (by rw [hk9]) (u := (u_54, u_55, u_56)) (by rw [hk9] <;> rfl) dM_dayOfLoan_101
    · skip
      refine lv_aload_n hx hb dM_dayOfLoan_57 rfl (lv_at hl 1 rfl) ?_
      refine va_get (v := .ref (b 16)) hx hb hg hin_M hown hK hP 0 rfl rfl 16 (by decide) (hg _ gw_510) (fun _ h => h) rfl dM_dayOfLoan_58 ?_
      refine lv_iconst (v := 4) hx hb dM_dayOfLoan_61 (by decide) ?_
      refine lv_iload_n hx hb dM_dayOfLoan_62 rfl (lv_at hl 2 rfl) ?_
      refine lv_imul hx hb dM_dayOfLoan_63 ?_
      refine lv_aload_n hx hb dM_dayOfLoan_64 rfl (lv_at hl 1 rfl) ?_
      refine va_get (v := .ref (b 16)) hx hb hg hin_M hown hK hP 0 rfl rfl 16 (by decide) (hg _ gw_510) (fun _ h => h) rfl dM_dayOfLoan_65 ?_
      refine lv_iconst (v := 4) hx hb dM_dayOfLoan_68 (by decide) ?_
      refine lv_iload_n hx hb dM_dayOfLoan_69 rfl (lv_at hl 2 rfl) ?_
      refine lv_imul hx hb dM_dayOfLoan_70 ?_
      refine kw_iald (v := σ 14 ((4 * ln).toNatClampNeg)) (j := ((4 * ln).toNatClampNeg)) hx hb hK hP 14 0 rfl rfl (kx_ix40 hln) rfl rfl dM_dayOfLoan_71 ?_
      refine lv_lload_n hx hb dM_dayOfLoan_72 rfl (lv_at hl 0 rfl) ?_
      refine lv_ldc2 (v := 20) hx hb hown (hg _ gw_670) dM_dayOfLoan_73 ?_
      refine lv_aload_n hx hb dM_dayOfLoan_76 rfl (lv_at hl 1 rfl) ?_
      refine va_get (v := .ref (b 7)) hx hb hg hin_M hown hK hP 0 rfl rfl 7 (by decide) (hg _ gw_501) (fun _ h => h) rfl dM_dayOfLoan_77 ?_
      refine lv_iload_n hx hb dM_dayOfLoan_80 rfl (lv_at hl 2 rfl) ?_
      refine kw_iald (v := σ 5 ln.toNatClampNeg) (j := ln.toNatClampNeg) hx hb hK hP 5 0 rfl rfl hln rfl rfl dM_dayOfLoan_81 ?_
      refine kp_retl (va_runS (As := [.long ((((σ 14 (((4 * ln) + 1).toNatClampNeg)).toInt64) + ((σ 14 (((4 * ln) + 2).toNatClampNeg)).toInt64)) + ((σ 14 (((4 * ln) + 3).toNatClampNeg)).toInt64)), .long 20, .int (σ 5 ln.toNatClampNeg)]) (rest := [.int (σ 14 ((4 * ln).toNatClampNeg)), .int (4 * ln), .ref (b 16)]) ⟨hx, hb, hml, hown, hg⟩ (c_M_rounded l ((((σ 14 (((4 * ln) + 1).toNatClampNeg)).toInt64) + ((σ 14 (((4 * ln) + 2).toNatClampNeg)).toInt64)) + ((σ 14 (((4 * ln) + 3).toNatClampNeg)).toInt64)) (20 : Int64) (σ 5 ln.toNatClampNeg) (by decide)) ⟨kw_cB (n := 3) hg gw_621 gw_2 gw_619 (by decide +kernel) (by decide +kernel) ⟨Nat.le_of_ble_eq_true rfl, Nat.le_of_ble_eq_true rfl⟩ rfl rfl, hg _ gw_620⟩ kp_pre rfl rfl hl.1 rfl (lv_room (Nat.le_of_ble_eq_true rfl)) dM_dayOfLoan_82 ⟨Nat.le_of_ble_eq_true rfl, Nat.le_of_ble_eq_true rfl⟩) ?_
      refine lv_topl (fun r_100 e_101 => ?_)
      replace e_101 := e_101.symm
      replace e_101 : aM_dayOfLoan_r_100 σ ln = r_100 := by subst e_5; exact e_101
      refine lv_l2i hx hb dM_dayOfLoan_85 rfl ?_
      refine lv_iadd hx hb dM_dayOfLoan_86 ?_
      refine kw_iast (w' := lm G b (σ 0 0) (σ 0 1) (σ 0 2) u_1 u_2 u_3 (σ 1) (σ 2) (σ 3) (σ 4) (σ 5) (σ 6) (σ 7) (σ 8) (σ 9) (σ 10) (σ 11) (σ 12) (σ 13) (upd (σ 14) ((4 * ln).toNatClampNeg) ((σ 14 ((4 * ln).toNatClampNeg)) + r_100.toInt32)) (σ 15) (σ 16) (σ 17) (σ 18) (σ 19) (σ 20) (σ 21) (σ 22)) (j := ((4 * ln).toNatClampNeg)) hx hb hK hP hD hS 14 0 rfl rfl (kx_ix40 hln) rfl dM_dayOfLoan_87 rfl (fun H locs hP hD hS => ?_)
      refine lv_aload_n hx hb dM_dayOfLoan_88 rfl (lv_at hl 1 rfl) ?_
      refine lv_iload_n hx hb dM_dayOfLoan_89 rfl (lv_at hl 2 rfl) ?_
      refine kx_reti0 (va_runV (C := RM) (As := [.int ln]) (rest := []) ⟨hx, hb, hml, hown, hg⟩ (c_M_whichDue l D G b (mkM (σ 0 0) (σ 0 1) (σ 0 2) (σ 0 3) (σ 0 4) (σ 0 5) (σ 1) (σ 2) (σ 3) (σ 4) (σ 5) (σ 6) (σ 7) (σ 8) (σ 9) (σ 10) (σ 11) (σ 12) (σ 13) (upd (σ 14) ((4 * ln).toNatClampNeg) ((σ 14 ((4 * ln).toNatClampNeg)) + r_100.toInt32)) (σ 15) (σ 16) (σ 17) (σ 18) (σ 19) (σ 20) (σ 21) (σ 22)) (u_1, u_2, u_3) ln _ hln) ⟨kw_cB (n := 1) hg gw_673 gw_2 gw_671 (by decide +kernel) (by decide +kernel) ⟨Nat.le_of_ble_eq_true rfl, Nat.le_of_ble_eq_true rfl⟩ rfl rfl, hg _ gw_672, hg _ gw_755⟩ (kw_preV (q0 := 0) hK hP hD rfl rfl) rfl rfl hl.1 rfl (lv_room (Nat.le_of_ble_eq_true rfl)) dM_dayOfLoan_90 ⟨Nat.le_of_ble_eq_true rfl, Nat.le_of_ble_eq_true rfl⟩) hP hD hS (fun _ h => Or.inr h) (fun u_102 u_103 u_104 H locs hP hD hS => ?_)
      refine lv_topi (fun r_105 e_106 => ?_)
      replace e_106 := e_106.symm
      replace e_106 : aM_dayOfLoan_r_105 σ ln = r_105 := by subst e_5 e_101; exact e_106
      refine lv_istore hx hb dM_dayOfLoan_93 hl (by decide) rfl (fun ls hl => ?_)
      have hl : lv_has ls 5 [(4, .int r_105), (2, .long ((((σ 14 (((4 * ln) + 1).toNatClampNeg)).toInt64) + ((σ 14 (((4 * ln) + 2).toNatClampNeg)).toInt64)) + ((σ 14 (((4 * ln) + 3).toNatClampNeg)).toInt64))), (0, .ref (b 0)), (1, .int ln)] := hl
      refine lv_iload hx hb dM_dayOfLoan_95 (lv_at hl 0 rfl) ?_
      refine lv_if_ne (tgt := 102) hx hb dM_dayOfLoan_97 (by decide) (fun h107 => ?_) (fun h107 => ?_)
      · skip
        refine lv_iload hx hb dM_dayOfLoan_102 (lv_at hl 0 rfl) ?_
        refine lv_bipush (v := 12) hx hb dM_dayOfLoan_104 (by decide) ?_
        refine lv_irem hx hb dM_dayOfLoan_106 (by decide) ?_
        refine lv_if_ne (tgt := 169) hx hb dM_dayOfLoan_107 (by decide) (fun h108 => ?_) (fun h108 => ?_)
        · skip
          refine lv_aload_n hx hb dM_dayOfLoan_169 rfl (lv_at hl 2 rfl) ?_
          refine lv_iload_n hx hb dM_dayOfLoan_170 rfl (lv_at hl 3 rfl) ?_
          refine kx_retv0 (va_runV (C := RM) (As := [.int ln]) (rest := []) ⟨hx, hb, hml, hown, hg⟩ (c_M_accrue l D G b (mkM (σ 0 0) (σ 0 1) (σ 0 2) (σ 0 3) (σ 0 4) (σ 0 5) (σ 1) (σ 2) (σ 3) (σ 4) (σ 5) (σ 6) (σ 7) (σ 8) (σ 9) (σ 10) (σ 11) (σ 12) (σ 13) (upd (σ 14) ((4 * ln).toNatClampNeg) ((σ 14 ((4 * ln).toNatClampNeg)) + r_100.toInt32)) (σ 15) (σ 16) (σ 17) (σ 18) (σ 19) (σ 20) (σ 21) (σ 22)) (u_102, u_103, u_104) ln _ hln hto) ⟨kw_cB (n := 1) hg gw_676 gw_2 gw_674 (by decide +kernel) (by decide +kernel) ⟨Nat.le_of_ble_eq_true rfl, Nat.le_of_ble_eq_true rfl⟩ rfl rfl, hg _ gw_675, hg _ gw_756⟩ (kw_preV (q0 := 0) hK hP hD rfl rfl) rfl rfl hl.1 rfl (lv_room (Nat.le_of_ble_eq_true rfl)) dM_dayOfLoan_171 ⟨Nat.le_of_ble_eq_true rfl, Nat.le_of_ble_eq_true rfl⟩) hP hD hS (fun _ h => Or.inr h) (fun u_109 u_110 u_111 H locs hP hD hS => ?_)
          obtain ⟨S_112, e_113⟩ : ∃ z : KS, (kM_accrue (mkM (σ 0 0) (σ 0 1) (σ 0 2) (σ 0 3) (σ 0 4) (σ 0 5) (σ 1) (σ 2) (σ 3) (σ 4) (σ 5) (σ 6) (σ 7) (σ 8) (σ 9) (σ 10) (σ 11) (σ 12) (σ 13) (upd (σ 14) ((4 * ln).toNatClampNeg) ((σ 14 ((4 * ln).toNatClampNeg)) + r_100.toInt32)) (σ 15) (σ 16) (σ 17) (σ 18) (σ 19) (σ 20) (σ 21) (σ 22)) ln) = z := ⟨_, rfl⟩
          rw [e_113] at hP hD
          replace e_113 : aM_dayOfLoan_S_112 σ ln = S_112 := by subst e_5 e_101 e_106; exact e_113
          refine lv_aload_n hx hb dM_dayOfLoan_174 rfl (lv_at hl 2 rfl) ?_
          refine va_get (v := .ref (b 9)) hx hb hg hin_M hown hK hP 0 rfl rfl 9 (by decide) (hg _ gw_503) (fun _ h => h) rfl dM_dayOfLoan_175 ?_
          refine lv_iload_n hx hb dM_dayOfLoan_178 rfl (lv_at hl 3 rfl) ?_
          refine kw_iald (v := S_112 7 ln.toNatClampNeg) (j := ln.toNatClampNeg) hx hb hK hP 7 0 rfl rfl hln rfl rfl dM_dayOfLoan_179 ?_
          refine lv_if_ne (tgt := 194) hx hb dM_dayOfLoan_180 (by decide) (fun h114 => ?_) (fun h114 => ?_)
          · skip
            refine lv_aload_n hx hb dM_dayOfLoan_194 rfl (lv_at hl 2 rfl) ?_
            refine lv_iload_n hx hb dM_dayOfLoan_195 rfl (lv_at hl 3 rfl) ?_
            refine lv_iload hx hb dM_dayOfLoan_196 (lv_at hl 0 rfl) ?_
            refine kx_retv0 (va_runV (C := RM) (As := [.int ln, .int r_105]) (rest := []) ⟨hx, hb, hml, hown, hg⟩ (c_M_makeBill l D G b S_112 (u_109, u_110, u_111) ln r_105 _ hln (by subst e_5 e_101 e_106 e_113; exact hbl)) ⟨kw_cB (n := 2) hg gw_679 gw_2 gw_677 (by decide +kernel) (by decide +kernel) ⟨Nat.le_of_ble_eq_true rfl, Nat.le_of_ble_eq_true rfl⟩ rfl rfl, hg _ gw_678, hg _ gw_757⟩ (kw_preV (q0 := 0) hK hP hD rfl rfl) rfl rfl hl.1 rfl (lv_room (Nat.le_of_ble_eq_true rfl)) dM_dayOfLoan_198 ⟨Nat.le_of_ble_eq_true rfl, Nat.le_of_ble_eq_true rfl⟩) hP hD hS (fun _ h => Or.inr h) (fun u_115 u_116 u_117 H locs hP hD hS => ?_)
            obtain ⟨S_118, e_119⟩ : ∃ z : KS, (kM_makeBill S_112 ln r_105) = z := ⟨_, rfl⟩
            rw [e_119] at hP hD
            replace e_119 : aM_dayOfLoan_S_118 σ ln = S_118 := by subst e_5 e_101 e_106 e_113; exact e_119
            refine lv_iconst (v := 1) hx hb dM_dayOfLoan_201 (by decide) ?_
            have hk9 : kM_dayOfLoan σ ln = (1, S_118) := by subst e_5 e_101 e_106 e_113 e_119; unfold kM_dayOfLoan; rw [if_neg h6, if_neg h53, if_neg h107, if_neg h108, if_neg h114]
            exact kx_iret hx hb hr hlocks hK hP hD hS (by rw [hk9]) (u := (u_115, u_116, u_117)) (by rw [hk9] <;> rfl) dM_dayOfLoan_202
          · skip
            refine lv_aload_n hx hb dM_dayOfLoan_183 rfl (lv_at hl 2 rfl) ?_
            refine va_get (v := .ref (b 11)) hx hb hg hin_M hown hK hP 0 rfl rfl 11 (by decide) (hg _ gw_505) (fun _ h => h) rfl dM_dayOfLoan_184 ?_
            refine lv_iload_n hx hb dM_dayOfLoan_187 rfl (lv_at hl 3 rfl) ?_
            refine kw_iald (v := S_112 9 ln.toNatClampNeg) (j := ln.toNatClampNeg) hx hb hK hP 9 0 rfl rfl hln rfl rfl dM_dayOfLoan_188 ?_
            refine lv_if_ne (tgt := 194) hx hb dM_dayOfLoan_189 (by decide) (fun h120 => ?_) (fun h120 => ?_)
            · skip
              refine lv_aload_n hx hb dM_dayOfLoan_194 rfl (lv_at hl 2 rfl) ?_
              refine lv_iload_n hx hb dM_dayOfLoan_195 rfl (lv_at hl 3 rfl) ?_
              refine lv_iload hx hb dM_dayOfLoan_196 (lv_at hl 0 rfl) ?_
              refine kx_retv0 (va_runV (C := RM) (As := [.int ln, .int r_105]) (rest := []) ⟨hx, hb, hml, hown, hg⟩ (c_M_makeBill l D G b S_112 (u_109, u_110, u_111) ln r_105 _ hln (by subst e_5 e_101 e_106 e_113; exact hbl)) ⟨kw_cB (n := 2) hg gw_679 gw_2 gw_677 (by decide +kernel) (by decide +kernel) ⟨Nat.le_of_ble_eq_true rfl, Nat.le_of_ble_eq_true rfl⟩ rfl rfl, hg _ gw_678, hg _ gw_757⟩ (kw_preV (q0 := 0) hK hP hD rfl rfl) rfl rfl hl.1 rfl (lv_room (Nat.le_of_ble_eq_true rfl)) dM_dayOfLoan_198 ⟨Nat.le_of_ble_eq_true rfl, Nat.le_of_ble_eq_true rfl⟩) hP hD hS (fun _ h => Or.inr h) (fun u_121 u_122 u_123 H locs hP hD hS => ?_)
              obtain ⟨S_124, e_125⟩ : ∃ z : KS, (kM_makeBill S_112 ln r_105) = z := ⟨_, rfl⟩
              rw [e_125] at hP hD
              replace e_125 : aM_dayOfLoan_S_124 σ ln = S_124 := by subst e_5 e_101 e_106 e_113; exact e_125
              refine lv_iconst (v := 1) hx hb dM_dayOfLoan_201 (by decide) ?_
              have hk9 : kM_dayOfLoan σ ln = (1, S_124) := by subst e_5 e_101 e_106 e_113 e_125; unfold kM_dayOfLoan; rw [if_neg h6, if_neg h53, if_neg h107, if_neg h108, if_pos h114, if_neg h120]
              exact kx_iret hx hb hr hlocks hK hP hD hS (by rw [hk9]) (u := (u_121, u_122, u_123)) (by rw [hk9] <;> rfl) dM_dayOfLoan_202
            · skip
              refine lv_iconst (v := 0) hx hb dM_dayOfLoan_192 (by decide) ?_
              have hk9 : kM_dayOfLoan σ ln = (0, S_112) := by subst e_5 e_101 e_106 e_113; unfold kM_dayOfLoan; rw [if_neg h6, if_neg h53, if_neg h107, if_neg h108, if_pos h114, if_pos h120]
              exact kx_iret hx hb hr hlocks hK hP hD hS (by rw [hk9]) (u := (u_109, u_110, u_111)) (by rw [hk9] <;> rfl) dM_dayOfLoan_193
        · skip
          refine lv_aload_n hx hb dM_dayOfLoan_110 rfl (lv_at hl 2 rfl) ?_
          refine va_get (v := .ref (b 13)) hx hb hg hin_M hown hK hP 0 rfl rfl 13 (by decide) (hg _ gw_507) (fun _ h => h) rfl dM_dayOfLoan_111 ?_
          refine lv_iload_n hx hb dM_dayOfLoan_114 rfl (lv_at hl 3 rfl) ?_
          refine lv_aload_n hx hb dM_dayOfLoan_115 rfl (lv_at hl 2 rfl) ?_
          refine va_get (v := .ref (b 13)) hx hb hg hin_M hown hK hP 0 rfl rfl 13 (by decide) (hg _ gw_507) (fun _ h => h) rfl dM_dayOfLoan_116 ?_
          refine lv_iload_n hx hb dM_dayOfLoan_119 rfl (lv_at hl 3 rfl) ?_
          refine kw_iald (v := σ 11 ln.toNatClampNeg) (j := ln.toNatClampNeg) hx hb hK hP 11 0 rfl rfl hln rfl rfl dM_dayOfLoan_120 ?_
          refine lv_aload_n hx hb dM_dayOfLoan_121 rfl (lv_at hl 2 rfl) ?_
          refine va_get (v := .ref (b 14)) hx hb hg hin_M hown hK hP 0 rfl rfl 14 (by decide) (hg _ gw_508) (fun _ h => h) rfl dM_dayOfLoan_122 ?_
          refine lv_iload_n hx hb dM_dayOfLoan_125 rfl (lv_at hl 3 rfl) ?_
          refine kw_iald (v := σ 12 ln.toNatClampNeg) (j := ln.toNatClampNeg) hx hb hK hP 12 0 rfl rfl hln rfl rfl dM_dayOfLoan_126 ?_
          refine lv_isub hx hb dM_dayOfLoan_127 ?_
          refine kw_iast (w' := lm G b (σ 0 0) (σ 0 1) (σ 0 2) u_102 u_103 u_104 (σ 1) (σ 2) (σ 3) (σ 4) (σ 5) (σ 6) (σ 7) (σ 8) (σ 9) (σ 10) (upd (σ 11) ln.toNatClampNeg ((σ 11 ln.toNatClampNeg) - (σ 12 ln.toNatClampNeg))) (σ 12) (σ 13) (upd (σ 14) ((4 * ln).toNatClampNeg) ((σ 14 ((4 * ln).toNatClampNeg)) + r_100.toInt32)) (σ 15) (σ 16) (σ 17) (σ 18) (σ 19) (σ 20) (σ 21) (σ 22)) (j := ln.toNatClampNeg) hx hb hK hP hD hS 11 0 rfl rfl hln rfl dM_dayOfLoan_128 rfl (fun H locs hP hD hS => ?_)
          refine lv_aload_n hx hb dM_dayOfLoan_129 rfl (lv_at hl 2 rfl) ?_
          refine va_get (v := .ref (b 15)) hx hb hg hin_M hown hK hP 0 rfl rfl 15 (by decide) (hg _ gw_509) (fun _ h => h) rfl dM_dayOfLoan_130 ?_
          refine lv_iload_n hx hb dM_dayOfLoan_133 rfl (lv_at hl 3 rfl) ?_
          refine lv_aload_n hx hb dM_dayOfLoan_134 rfl (lv_at hl 2 rfl) ?_
          refine va_get (v := .ref (b 13)) hx hb hg hin_M hown hK hP 0 rfl rfl 13 (by decide) (hg _ gw_507) (fun _ h => h) rfl dM_dayOfLoan_135 ?_
          refine lv_iload_n hx hb dM_dayOfLoan_138 rfl (lv_at hl 3 rfl) ?_
          refine kw_iald (v := (upd (σ 11) ln.toNatClampNeg ((σ 11 ln.toNatClampNeg) - (σ 12 ln.toNatClampNeg))) ln.toNatClampNeg) (j := ln.toNatClampNeg) hx hb hK hP 11 0 rfl rfl hln rfl rfl dM_dayOfLoan_139 ?_
          refine kw_diamond (c9 := (0 : Int32) ≤ ((upd (σ 11) ln.toNatClampNeg ((σ 11 ln.toNatClampNeg) - (σ 12 ln.toNatClampNeg))) ln.toNatClampNeg)) (x := σ 12 ln.toNatClampNeg) (y := (σ 12 ln.toNatClampNeg) - ((upd (σ 11) ln.toNatClampNeg ((σ 11 ln.toNatClampNeg) - (σ 12 ln.toNatClampNeg))) ln.toNatClampNeg)) (g := fun z => F0 m 165 ls (.int z :: [.int ln, .ref (b 15)])) (fun jt jf => ?_) (fun z_126 e_127 => ?_)
          · skip
            refine lv_if_ge (tgt := 159) hx hb dM_dayOfLoan_140 (by decide) (fun h128 => ?_) (fun h128 => ?_)
            · skip
              refine lv_aload_n hx hb dM_dayOfLoan_159 rfl (lv_at hl 2 rfl) ?_
              refine va_get (v := .ref (b 14)) hx hb hg hin_M hown hK hP 0 rfl rfl 14 (by decide) (hg _ gw_508) (fun _ h => h) rfl dM_dayOfLoan_160 ?_
              refine lv_iload_n hx hb dM_dayOfLoan_163 rfl (lv_at hl 3 rfl) ?_
              refine kw_iald (v := σ 12 ln.toNatClampNeg) (j := ln.toNatClampNeg) hx hb hK hP 12 0 rfl rfl hln rfl rfl dM_dayOfLoan_164 ?_
              exact jt h128
            · skip
              refine lv_aload_n hx hb dM_dayOfLoan_143 rfl (lv_at hl 2 rfl) ?_
              refine va_get (v := .ref (b 14)) hx hb hg hin_M hown hK hP 0 rfl rfl 14 (by decide) (hg _ gw_508) (fun _ h => h) rfl dM_dayOfLoan_144 ?_
              refine lv_iload_n hx hb dM_dayOfLoan_147 rfl (lv_at hl 3 rfl) ?_
              refine kw_iald (v := σ 12 ln.toNatClampNeg) (j := ln.toNatClampNeg) hx hb hK hP 12 0 rfl rfl hln rfl rfl dM_dayOfLoan_148 ?_
              refine lv_aload_n hx hb dM_dayOfLoan_149 rfl (lv_at hl 2 rfl) ?_
              refine va_get (v := .ref (b 13)) hx hb hg hin_M hown hK hP 0 rfl rfl 13 (by decide) (hg _ gw_507) (fun _ h => h) rfl dM_dayOfLoan_150 ?_
              refine lv_iload_n hx hb dM_dayOfLoan_153 rfl (lv_at hl 3 rfl) ?_
              refine kw_iald (v := (upd (σ 11) ln.toNatClampNeg ((σ 11 ln.toNatClampNeg) - (σ 12 ln.toNatClampNeg))) ln.toNatClampNeg) (j := ln.toNatClampNeg) hx hb hK hP 11 0 rfl rfl hln rfl rfl dM_dayOfLoan_154 ?_
              refine lv_isub hx hb dM_dayOfLoan_155 ?_
              refine lv_goto (tgt := 165) hx hb dM_dayOfLoan_156 (by decide) ?_
              exact jf h128
          replace e_127 : aM_dayOfLoan_z_126 σ ln = z_126 := by subst e_5 e_101 e_106; exact e_127
          refine kp_reti (va_runS (As := [.int z_126]) (rest := [.int ln, .ref (b 15)]) ⟨hx, hb, hml, hown, hg⟩ (c_M_twelfth l z_126) ⟨kw_cB (n := 1) hg gw_659 gw_2 gw_657 (by decide +kernel) (by decide +kernel) ⟨Nat.le_of_ble_eq_true rfl, Nat.le_of_ble_eq_true rfl⟩ rfl rfl, hg _ gw_658⟩ kp_pre rfl rfl hl.1 rfl (lv_room (Nat.le_of_ble_eq_true rfl)) dM_dayOfLoan_165 ⟨Nat.le_of_ble_eq_true rfl, Nat.le_of_ble_eq_true rfl⟩) ?_
          refine lv_topi (fun r_129 e_130 => ?_)
          replace e_130 := e_130.symm
          replace e_130 : aM_dayOfLoan_r_129 σ ln = r_129 := by subst e_5 e_101 e_106 e_127; exact e_130
          refine kw_iast (w' := lm G b (σ 0 0) (σ 0 1) (σ 0 2) u_102 u_103 u_104 (σ 1) (σ 2) (σ 3) (σ 4) (σ 5) (σ 6) (σ 7) (σ 8) (σ 9) (σ 10) (upd (σ 11) ln.toNatClampNeg ((σ 11 ln.toNatClampNeg) - (σ 12 ln.toNatClampNeg))) (σ 12) (upd (σ 13) ln.toNatClampNeg r_129) (upd (σ 14) ((4 * ln).toNatClampNeg) ((σ 14 ((4 * ln).toNatClampNeg)) + r_100.toInt32)) (σ 15) (σ 16) (σ 17) (σ 18) (σ 19) (σ 20) (σ 21) (σ 22)) (j := ln.toNatClampNeg) hx hb hK hP hD hS 13 0 rfl rfl hln rfl dM_dayOfLoan_168 rfl (fun H locs hP hD hS => ?_)
          refine lv_aload_n hx hb dM_dayOfLoan_169 rfl (lv_at hl 2 rfl) ?_
          refine lv_iload_n hx hb dM_dayOfLoan_170 rfl (lv_at hl 3 rfl) ?_
          refine kx_retv0 (va_runV (C := RM) (As := [.int ln]) (rest := []) ⟨hx, hb, hml, hown, hg⟩ (c_M_accrue l D G b (mkM (σ 0 0) (σ 0 1) (σ 0 2) (σ 0 3) (σ 0 4) (σ 0 5) (σ 1) (σ 2) (σ 3) (σ 4) (σ 5) (σ 6) (σ 7) (σ 8) (σ 9) (σ 10) (upd (σ 11) ln.toNatClampNeg ((σ 11 ln.toNatClampNeg) - (σ 12 ln.toNatClampNeg))) (σ 12) (upd (σ 13) ln.toNatClampNeg r_129) (upd (σ 14) ((4 * ln).toNatClampNeg) ((σ 14 ((4 * ln).toNatClampNeg)) + r_100.toInt32)) (σ 15) (σ 16) (σ 17) (σ 18) (σ 19) (σ 20) (σ 21) (σ 22)) (u_102, u_103, u_104) ln _ hln hto) ⟨kw_cB (n := 1) hg gw_676 gw_2 gw_674 (by decide +kernel) (by decide +kernel) ⟨Nat.le_of_ble_eq_true rfl, Nat.le_of_ble_eq_true rfl⟩ rfl rfl, hg _ gw_675, hg _ gw_756⟩ (kw_preV (q0 := 0) hK hP hD rfl rfl) rfl rfl hl.1 rfl (lv_room (Nat.le_of_ble_eq_true rfl)) dM_dayOfLoan_171 ⟨Nat.le_of_ble_eq_true rfl, Nat.le_of_ble_eq_true rfl⟩) hP hD hS (fun _ h => Or.inr h) (fun u_131 u_132 u_133 H locs hP hD hS => ?_)
          obtain ⟨S_134, e_135⟩ : ∃ z : KS, (kM_accrue (mkM (σ 0 0) (σ 0 1) (σ 0 2) (σ 0 3) (σ 0 4) (σ 0 5) (σ 1) (σ 2) (σ 3) (σ 4) (σ 5) (σ 6) (σ 7) (σ 8) (σ 9) (σ 10) (upd (σ 11) ln.toNatClampNeg ((σ 11 ln.toNatClampNeg) - (σ 12 ln.toNatClampNeg))) (σ 12) (upd (σ 13) ln.toNatClampNeg r_129) (upd (σ 14) ((4 * ln).toNatClampNeg) ((σ 14 ((4 * ln).toNatClampNeg)) + r_100.toInt32)) (σ 15) (σ 16) (σ 17) (σ 18) (σ 19) (σ 20) (σ 21) (σ 22)) ln) = z := ⟨_, rfl⟩
          rw [e_135] at hP hD
          replace e_135 : aM_dayOfLoan_S_134 σ ln = S_134 := by subst e_5 e_101 e_106 e_127 e_130; exact e_135
          refine lv_aload_n hx hb dM_dayOfLoan_174 rfl (lv_at hl 2 rfl) ?_
          refine va_get (v := .ref (b 9)) hx hb hg hin_M hown hK hP 0 rfl rfl 9 (by decide) (hg _ gw_503) (fun _ h => h) rfl dM_dayOfLoan_175 ?_
          refine lv_iload_n hx hb dM_dayOfLoan_178 rfl (lv_at hl 3 rfl) ?_
          refine kw_iald (v := S_134 7 ln.toNatClampNeg) (j := ln.toNatClampNeg) hx hb hK hP 7 0 rfl rfl hln rfl rfl dM_dayOfLoan_179 ?_
          refine lv_if_ne (tgt := 194) hx hb dM_dayOfLoan_180 (by decide) (fun h136 => ?_) (fun h136 => ?_)
          · skip
            refine lv_aload_n hx hb dM_dayOfLoan_194 rfl (lv_at hl 2 rfl) ?_
            refine lv_iload_n hx hb dM_dayOfLoan_195 rfl (lv_at hl 3 rfl) ?_
            refine lv_iload hx hb dM_dayOfLoan_196 (lv_at hl 0 rfl) ?_
            refine kx_retv0 (va_runV (C := RM) (As := [.int ln, .int r_105]) (rest := []) ⟨hx, hb, hml, hown, hg⟩ (c_M_makeBill l D G b S_134 (u_131, u_132, u_133) ln r_105 _ hln (by subst e_5 e_101 e_106 e_127 e_130 e_135; exact hbl)) ⟨kw_cB (n := 2) hg gw_679 gw_2 gw_677 (by decide +kernel) (by decide +kernel) ⟨Nat.le_of_ble_eq_true rfl, Nat.le_of_ble_eq_true rfl⟩ rfl rfl, hg _ gw_678, hg _ gw_757⟩ (kw_preV (q0 := 0) hK hP hD rfl rfl) rfl rfl hl.1 rfl (lv_room (Nat.le_of_ble_eq_true rfl)) dM_dayOfLoan_198 ⟨Nat.le_of_ble_eq_true rfl, Nat.le_of_ble_eq_true rfl⟩) hP hD hS (fun _ h => Or.inr h) (fun u_137 u_138 u_139 H locs hP hD hS => ?_)
            obtain ⟨S_140, e_141⟩ : ∃ z : KS, (kM_makeBill S_134 ln r_105) = z := ⟨_, rfl⟩
            rw [e_141] at hP hD
            replace e_141 : aM_dayOfLoan_S_140 σ ln = S_140 := by subst e_5 e_101 e_106 e_127 e_130 e_135; exact e_141
            refine lv_iconst (v := 1) hx hb dM_dayOfLoan_201 (by decide) ?_
            have hk9 : kM_dayOfLoan σ ln = (1, S_140) := by subst e_5 e_101 e_106 e_127 e_130 e_135 e_141; unfold kM_dayOfLoan; rw [if_neg h6, if_neg h53, if_neg h107, if_pos h108, if_neg h136]
            exact kx_iret hx hb hr hlocks hK hP hD hS (by rw [hk9]) (u := (u_137, u_138, u_139)) (by rw [hk9] <;> rfl) dM_dayOfLoan_202
          · skip
            refine lv_aload_n hx hb dM_dayOfLoan_183 rfl (lv_at hl 2 rfl) ?_
            refine va_get (v := .ref (b 11)) hx hb hg hin_M hown hK hP 0 rfl rfl 11 (by decide) (hg _ gw_505) (fun _ h => h) rfl dM_dayOfLoan_184 ?_
            refine lv_iload_n hx hb dM_dayOfLoan_187 rfl (lv_at hl 3 rfl) ?_
            refine kw_iald (v := S_134 9 ln.toNatClampNeg) (j := ln.toNatClampNeg) hx hb hK hP 9 0 rfl rfl hln rfl rfl dM_dayOfLoan_188 ?_
            refine lv_if_ne (tgt := 194) hx hb dM_dayOfLoan_189 (by decide) (fun h142 => ?_) (fun h142 => ?_)
            · skip
              refine lv_aload_n hx hb dM_dayOfLoan_194 rfl (lv_at hl 2 rfl) ?_
              refine lv_iload_n hx hb dM_dayOfLoan_195 rfl (lv_at hl 3 rfl) ?_
              refine lv_iload hx hb dM_dayOfLoan_196 (lv_at hl 0 rfl) ?_
              refine kx_retv0 (va_runV (C := RM) (As := [.int ln, .int r_105]) (rest := []) ⟨hx, hb, hml, hown, hg⟩ (c_M_makeBill l D G b S_134 (u_131, u_132, u_133) ln r_105 _ hln (by subst e_5 e_101 e_106 e_127 e_130 e_135; exact hbl)) ⟨kw_cB (n := 2) hg gw_679 gw_2 gw_677 (by decide +kernel) (by decide +kernel) ⟨Nat.le_of_ble_eq_true rfl, Nat.le_of_ble_eq_true rfl⟩ rfl rfl, hg _ gw_678, hg _ gw_757⟩ (kw_preV (q0 := 0) hK hP hD rfl rfl) rfl rfl hl.1 rfl (lv_room (Nat.le_of_ble_eq_true rfl)) dM_dayOfLoan_198 ⟨Nat.le_of_ble_eq_true rfl, Nat.le_of_ble_eq_true rfl⟩) hP hD hS (fun _ h => Or.inr h) (fun u_143 u_144 u_145 H locs hP hD hS => ?_)
              obtain ⟨S_146, e_147⟩ : ∃ z : KS, (kM_makeBill S_134 ln r_105) = z := ⟨_, rfl⟩
              rw [e_147] at hP hD
              replace e_147 : aM_dayOfLoan_S_146 σ ln = S_146 := by subst e_5 e_101 e_106 e_127 e_130 e_135; exact e_147
              refine lv_iconst (v := 1) hx hb dM_dayOfLoan_201 (by decide) ?_
              have hk9 : kM_dayOfLoan σ ln = (1, S_146) := by subst e_5 e_101 e_106 e_127 e_130 e_135 e_147; unfold kM_dayOfLoan; rw [if_neg h6, if_neg h53, if_neg h107, if_pos h108, if_pos h136, if_neg h142]
              exact kx_iret hx hb hr hlocks hK hP hD hS (by rw [hk9]) (u := (u_143, u_144, u_145)) (by rw [hk9] <;> rfl) dM_dayOfLoan_202
            · skip
              refine lv_iconst (v := 0) hx hb dM_dayOfLoan_192 (by decide) ?_
              have hk9 : kM_dayOfLoan σ ln = (0, S_134) := by subst e_5 e_101 e_106 e_127 e_130 e_135; unfold kM_dayOfLoan; rw [if_neg h6, if_neg h53, if_neg h107, if_pos h108, if_pos h136, if_pos h142]
              exact kx_iret hx hb hr hlocks hK hP hD hS (by rw [hk9]) (u := (u_131, u_132, u_133)) (by rw [hk9] <;> rfl) dM_dayOfLoan_193
      · skip
        refine lv_iconst (v := 0) hx hb dM_dayOfLoan_100 (by decide) ?_
        have hk9 : kM_dayOfLoan σ ln = (0, mkM (σ 0 0) (σ 0 1) (σ 0 2) (σ 0 3) (σ 0 4) (σ 0 5) (σ 1) (σ 2) (σ 3) (σ 4) (σ 5) (σ 6) (σ 7) (σ 8) (σ 9) (σ 10) (σ 11) (σ 12) (σ 13) (upd (σ 14) ((4 * ln).toNatClampNeg) ((σ 14 ((4 * ln).toNatClampNeg)) + r_100.toInt32)) (σ 15) (σ 16) (σ 17) (σ 18) (σ 19) (σ 20) (σ 21) (σ 22)) := by subst e_5 e_101 e_106; unfold kM_dayOfLoan; rw [if_neg h6, if_neg h53, if_pos h107]
        exact kx_iret hx hb hr hlocks hK hP hD hS (by rw [hk9]) (u := (u_102, u_103, u_104)) (by rw [hk9] <;> rfl) dM_dayOfLoan_101
