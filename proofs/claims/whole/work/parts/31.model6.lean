/-! the reference: opening -/
theorem kx_room {x : Int32} {nl : Nat} (hnl : x = nI nl) (hn3 : nl ≤ 3) (h : ¬ x = 3) : vp_in x 3 := by
  subst hnl
  refine vp_in_nI (n := nl) ?_ (by decide)
  rcases Nat.lt_or_ge nl 3 with q | q
  · exact q
  · have : nl = 3 := by omega
    subst this
    exact absurd rfl h
def kM_open (σ : KS) (amount : Int32) (per : Int32) (n9 : Int32) (how : Int32) (rnd : Int32) (still : Int32) : Int32 × KS := if (kM_within amount (1 : Int32) (100000000 : Int32)) = (0 : Int32) then (0, mkM 1 (σ 0 1) (σ 0 2) (σ 0 3) (σ 0 4) (σ 0 5) (σ 1) (σ 2) (σ 3) (σ 4) (σ 5) (σ 6) (σ 7) (σ 8) (σ 9) (σ 10) (σ 11) (σ 12) (σ 13) (σ 14) (σ 15) (σ 16) (σ 17) (σ 18) (σ 19) (σ 20) (σ 21) (σ 22)) else (if (kM_within per (0 : Int32) (30000 : Int32)) = (0 : Int32) then (0, mkM 1 (σ 0 1) (σ 0 2) (σ 0 3) (σ 0 4) (σ 0 5) (σ 1) (σ 2) (σ 3) (σ 4) (σ 5) (σ 6) (σ 7) (σ 8) (σ 9) (σ 10) (σ 11) (σ 12) (σ 13) (σ 14) (σ 15) (σ 16) (σ 17) (σ 18) (σ 19) (σ 20) (σ 21) (σ 22)) else (if (kM_within n9 (1 : Int32) (36 : Int32)) = (0 : Int32) then (0, mkM 1 (σ 0 1) (σ 0 2) (σ 0 3) (σ 0 4) (σ 0 5) (σ 1) (σ 2) (σ 3) (σ 4) (σ 5) (σ 6) (σ 7) (σ 8) (σ 9) (σ 10) (σ 11) (σ 12) (σ 13) (σ 14) (σ 15) (σ 16) (σ 17) (σ 18) (σ 19) (σ 20) (σ 21) (σ 22)) else (if (kM_within how (0 : Int32) (3 : Int32)) = (0 : Int32) then (0, mkM 1 (σ 0 1) (σ 0 2) (σ 0 3) (σ 0 4) (σ 0 5) (σ 1) (σ 2) (σ 3) (σ 4) (σ 5) (σ 6) (σ 7) (σ 8) (σ 9) (σ 10) (σ 11) (σ 12) (σ 13) (σ 14) (σ 15) (σ 16) (σ 17) (σ 18) (σ 19) (σ 20) (σ 21) (σ 22)) else (if (kM_within rnd (0 : Int32) (3 : Int32)) = (0 : Int32) then (0, mkM 1 (σ 0 1) (σ 0 2) (σ 0 3) (σ 0 4) (σ 0 5) (σ 1) (σ 2) (σ 3) (σ 4) (σ 5) (σ 6) (σ 7) (σ 8) (σ 9) (σ 10) (σ 11) (σ 12) (σ 13) (σ 14) (σ 15) (σ 16) (σ 17) (σ 18) (σ 19) (σ 20) (σ 21) (σ 22)) else (if (σ 0 2) = (3 : Int32) then (0, mkM 2 (σ 0 1) (σ 0 2) (σ 0 3) (σ 0 4) (σ 0 5) (σ 1) (σ 2) (σ 3) (σ 4) (σ 5) (σ 6) (σ 7) (σ 8) (σ 9) (σ 10) (σ 11) (σ 12) (σ 13) (σ 14) (σ 15) (σ 16) (σ 17) (σ 18) (σ 19) (σ 20) (σ 21) (σ 22)) else (σ 0 2, (kM_reckon (mkM 0 (σ 0 1) ((σ 0 2) + 1) (σ 0 3) (σ 0 4) (σ 0 5) (upd (σ 1) ((σ 0 2).toNatClampNeg) (σ 0 1)) (upd (σ 2) ((σ 0 2).toNatClampNeg) per) (upd (σ 3) ((σ 0 2).toNatClampNeg) n9) (upd (σ 4) ((σ 0 2).toNatClampNeg) how) (upd (σ 5) ((σ 0 2).toNatClampNeg) rnd) (upd (σ 6) ((σ 0 2).toNatClampNeg) still) (upd (σ 7) ((σ 0 2).toNatClampNeg) amount) (σ 8) (σ 9) (upd (σ 10) ((σ 0 2).toNatClampNeg) (σ 0 1)) (σ 11) (σ 12) (σ 13) (σ 14) (σ 15) (σ 16) (σ 17) (σ 18) (σ 19) (σ 20) (σ 21) (σ 22)) (σ 0 2) amount)))))))
abbrev wgM_open : List Cond := .code yM_open cM_open 9 (some .int) :: GW
abbrev rm_M_open : Room := { frames := 8, cells := 0, slots := 0, locals := 197 }
set_option maxRecDepth 100000 in
set_option maxHeartbeats 4000000 in
theorem c_M_open (l : Launch) (D : va_G) (G : Nat → ClassId) (b : Nat → Nat) (σ : KS) (u0 : Int32 × Int32 × Int32) (amount : Int32) (per : Int32) (n9 : Int32) (how : Int32) (rnd : Int32) (still : Int32) (sz : Nat) (nl : Nat) (hnl : σ 0 2 = nI nl) (hn3 : nl ≤ 3) (hst : kz_in still) (hpp : ¬ kM_within n9 1 36 = 0 → ¬ σ 0 2 = 3 → (∀ k : Int32, (kM_firstBehind (mkM 0 (σ 0 1) ((σ 0 2) + 1) (σ 0 3) (σ 0 4) (σ 0 5) (upd (σ 1) ((σ 0 2).toNatClampNeg) (σ 0 1)) (upd (σ 2) ((σ 0 2).toNatClampNeg) per) (upd (σ 3) ((σ 0 2).toNatClampNeg) n9) (upd (σ 4) ((σ 0 2).toNatClampNeg) how) (upd (σ 5) ((σ 0 2).toNatClampNeg) rnd) (upd (σ 6) ((σ 0 2).toNatClampNeg) still) (upd (σ 7) ((σ 0 2).toNatClampNeg) amount) (σ 8) (σ 9) (upd (σ 10) ((σ 0 2).toNatClampNeg) (σ 0 1)) (σ 11) (σ 12) (σ 13) (σ 14) (σ 15) (σ 16) (σ 17) (σ 18) (σ 19) (σ 20) (σ 21) (σ 22)) (σ 0 2)).toInt ≤ k.toInt → ¬ (mkM 0 (σ 0 1) ((σ 0 2) + 1) (σ 0 3) (σ 0 4) (σ 0 5) (upd (σ 1) ((σ 0 2).toNatClampNeg) (σ 0 1)) (upd (σ 2) ((σ 0 2).toNatClampNeg) per) (upd (σ 3) ((σ 0 2).toNatClampNeg) n9) (upd (σ 4) ((σ 0 2).toNatClampNeg) how) (upd (σ 5) ((σ 0 2).toNatClampNeg) rnd) (upd (σ 6) ((σ 0 2).toNatClampNeg) still) (upd (σ 7) ((σ 0 2).toNatClampNeg) amount) (σ 8) (σ 9) (upd (σ 10) ((σ 0 2).toNatClampNeg) (σ 0 1)) (σ 11) (σ 12) (σ 13) (σ 14) (σ 15) (σ 16) (σ 17) (σ 18) (σ 19) (σ 20) (σ 21) (σ 22)) 3 (σ 0 2).toNatClampNeg < k → kM_dueDay ((mkM 0 (σ 0 1) ((σ 0 2) + 1) (σ 0 3) (σ 0 4) (σ 0 5) (upd (σ 1) ((σ 0 2).toNatClampNeg) (σ 0 1)) (upd (σ 2) ((σ 0 2).toNatClampNeg) per) (upd (σ 3) ((σ 0 2).toNatClampNeg) n9) (upd (σ 4) ((σ 0 2).toNatClampNeg) how) (upd (σ 5) ((σ 0 2).toNatClampNeg) rnd) (upd (σ 6) ((σ 0 2).toNatClampNeg) still) (upd (σ 7) ((σ 0 2).toNatClampNeg) amount) (σ 8) (σ 9) (upd (σ 10) ((σ 0 2).toNatClampNeg) (σ 0 1)) (σ 11) (σ 12) (σ 13) (σ 14) (σ 15) (σ 16) (σ 17) (σ 18) (σ 19) (σ 20) (σ 21) (σ 22)) 1 (σ 0 2).toNatClampNeg) k ≤ 1073741824) ∧ ((mkM 0 (σ 0 1) ((σ 0 2) + 1) (σ 0 3) (σ 0 4) (σ 0 5) (upd (σ 1) ((σ 0 2).toNatClampNeg) (σ 0 1)) (upd (σ 2) ((σ 0 2).toNatClampNeg) per) (upd (σ 3) ((σ 0 2).toNatClampNeg) n9) (upd (σ 4) ((σ 0 2).toNatClampNeg) how) (upd (σ 5) ((σ 0 2).toNatClampNeg) rnd) (upd (σ 6) ((σ 0 2).toNatClampNeg) still) (upd (σ 7) ((σ 0 2).toNatClampNeg) amount) (σ 8) (σ 9) (upd (σ 10) ((σ 0 2).toNatClampNeg) (σ 0 1)) (σ 11) (σ 12) (σ 13) (σ 14) (σ 15) (σ 16) (σ 17) (σ 18) (σ 19) (σ 20) (σ 21) (σ 22)) 3 (σ 0 2).toNatClampNeg).toInt ≤ 36) : Met l yM_open wgM_open rm_M_open (kw_Pc D vwCl (gt G) [.ref (b 0), .int amount, .int per, .int n9, .int how, .int rnd, .int still] (mcells G b (scr σ u0)) sz) (kx_i D vwCl (gt G) (mcells G b (scr σ u0)) sz ((kM_open σ amount per n9 how rnd still).1) (fun u => mcells G b (scr ((kM_open σ amount per n9 how rnd still).2) u))) 0 0 (va_A (mcells G b (scr σ u0)) sz) := by
  refine Met.ofW (cc := cM_open) (maxL := 9) (ret := (some .int)) (by decide) rfl ?_
  intro p e s m args below meth c s₁ B hml hv
  have hx := B.exec
  have hb := B.bytes
  have hr := B.returns
  have hts := atoms_spec (ws := wgM_open) B.pre
  have hg : ∀ w ∈ GW, w.before args s = true := fun w h => hts w (List.mem_cons_of_mem _ h)
  have hown : s.vm.findClass RM = some m.cls := findClass_of_methodNamed B.named
  have hlocks := B.notSynchronized
  obtain ⟨hv, hsz, hP, hK, hD0⟩ := hv
  subst hsz
  have hD := hD0.self (sz := s.heap.size)
  have hS : va_S (va_A (mcells G b (scr σ u0)) s.heap.size) s.heap s.heap [] := va_S.rf
  refine kw_entry [.ref (b 0), .int amount, .int per, .int n9, .int how, .int rnd, .int still] hv (Nat.le_of_ble_eq_true rfl) (fun ls hl => ?_)
  have hl : lv_has ls 9 [(0, .ref (b 0)), (1, .int amount), (2, .int per), (3, .int n9), (4, .int how), (5, .int rnd), (6, .int still)] := hl
  refine lv_iload_n hx hb dM_open_0 rfl (lv_at hl 1 rfl) ?_
  refine lv_iconst (v := 1) hx hb dM_open_1 (by decide) ?_
  refine lv_ldc (v := 100000000) hx hb hown (hg _ gw_601) dM_open_2 ?_
  refine kp_reti (va_runS (As := [.int amount, .int 1, .int 100000000]) (rest := []) ⟨hx, hb, hml, hown, hg⟩ (c_M_within l amount (1 : Int32) (100000000 : Int32)) ⟨kw_cB (n := 3) hg gw_604 gw_2 gw_602 (by decide +kernel) (by decide +kernel) ⟨Nat.le_of_ble_eq_true rfl, Nat.le_of_ble_eq_true rfl⟩ rfl rfl, hg _ gw_603⟩ kp_pre rfl rfl hl.1 rfl (lv_room (Nat.le_of_ble_eq_true rfl)) dM_open_4 ⟨Nat.le_of_ble_eq_true rfl, Nat.le_of_ble_eq_true rfl⟩) ?_
  refine lv_topi (fun r_1 e_2 => ?_)
  replace e_2 := e_2.symm
  refine lv_if_eq (tgt := 55) hx hb dM_open_7 (by decide) (fun h3 => ?_) (fun h3 => ?_)
  · skip
    refine lv_iconst (v := 0) hx hb dM_open_55 (by decide) ?_
    refine lv_istore hx hb dM_open_56 hl (by decide) rfl (fun ls hl => ?_)
    have hl : lv_has ls 9 [(7, .int 0), (0, .ref (b 0)), (1, .int amount), (2, .int per), (3, .int n9), (4, .int how), (5, .int rnd), (6, .int still)] := hl
    refine lv_aload_n hx hb dM_open_58 rfl (lv_at hl 1 rfl) ?_
    refine lv_iload hx hb dM_open_59 (lv_at hl 0 rfl) ?_
    refine lv_if_ne (tgt := 68) hx hb dM_open_61 (by decide) (fun h => absurd h (by decide)) (fun _ => ?_)
    refine lv_iconst (v := 1) hx hb dM_open_64 (by decide) ?_
    refine lv_goto (tgt := 81) hx hb dM_open_65 (by decide) ?_
    refine kw_put (w' := lm G b 1 (σ 0 1) (σ 0 2) u0.1 u0.2.1 u0.2.2 (σ 1) (σ 2) (σ 3) (σ 4) (σ 5) (σ 6) (σ 7) (σ 8) (σ 9) (σ 10) (σ 11) (σ 12) (σ 13) (σ 14) (σ 15) (σ 16) (σ 17) (σ 18) (σ 19) (σ 20) (σ 21) (σ 22)) (v := .int 1) (ty := .int) hx hb hg hin_M tyM tyM_ok nM hown hK hP hD hS 0 rfl rfl 0 (by decide) (hg _ gw_494) (fun _ h => h) rfl (by decide +kernel) rfl rfl (Nat.le_of_ble_eq_true rfl) dM_open_81 rfl (fun H locs hP hD hS => ?_)
    refine lv_aload_n hx hb dM_open_84 rfl (lv_at hl 1 rfl) ?_
    refine va_get (v := .int 1) hx hb hg hin_M hown hK hP 0 rfl rfl 0 (by decide) (hg _ gw_494) (fun _ h => h) rfl dM_open_85 ?_
    refine lv_if_le (tgt := 93) hx hb dM_open_88 (by decide) (fun h => absurd h (by decide)) (fun _ => ?_)
    refine lv_iconst (v := 0) hx hb dM_open_91 (by decide) ?_
    have hk9 : kM_open σ amount per n9 how rnd still = (0, mkM 1 (σ 0 1) (σ 0 2) (σ 0 3) (σ 0 4) (σ 0 5) (σ 1) (σ 2) (σ 3) (σ 4) (σ 5) (σ 6) (σ 7) (σ 8) (σ 9) (σ 10) (σ 11) (σ 12) (σ 13) (σ 14) (σ 15) (σ 16) (σ 17) (σ 18) (σ 19) (σ 20) (σ 21) (σ 22)) := by subst e_2; unfold kM_open; rw [if_pos h3]
    exact kx_iret hx hb hr hlocks hK hP hD hS (by rw [hk9]) (u := (u0.1, u0.2.1, u0.2.2)) (by rw [hk9] <;> rfl) dM_open_92
  · skip
    refine lv_iload_n hx hb dM_open_10 rfl (lv_at hl 2 rfl) ?_
    refine lv_iconst (v := 0) hx hb dM_open_11 (by decide) ?_
    refine lv_sipush (v := 30000) hx hb dM_open_12 (by decide) ?_
    refine kp_reti (va_runS (As := [.int per, .int 0, .int 30000]) (rest := []) ⟨hx, hb, hml, hown, hg⟩ (c_M_within l per (0 : Int32) (30000 : Int32)) ⟨kw_cB (n := 3) hg gw_604 gw_2 gw_602 (by decide +kernel) (by decide +kernel) ⟨Nat.le_of_ble_eq_true rfl, Nat.le_of_ble_eq_true rfl⟩ rfl rfl, hg _ gw_603⟩ kp_pre rfl rfl hl.1 rfl (lv_room (Nat.le_of_ble_eq_true rfl)) dM_open_15 ⟨Nat.le_of_ble_eq_true rfl, Nat.le_of_ble_eq_true rfl⟩) ?_
    refine lv_topi (fun r_4 e_5 => ?_)
    replace e_5 := e_5.symm
    refine lv_if_eq (tgt := 55) hx hb dM_open_18 (by decide) (fun h6 => ?_) (fun h6 => ?_)
    · skip
      refine lv_iconst (v := 0) hx hb dM_open_55 (by decide) ?_
      refine lv_istore hx hb dM_open_56 hl (by decide) rfl (fun ls hl => ?_)
      have hl : lv_has ls 9 [(7, .int 0), (0, .ref (b 0)), (1, .int amount), (2, .int per), (3, .int n9), (4, .int how), (5, .int rnd), (6, .int still)] := hl
      refine lv_aload_n hx hb dM_open_58 rfl (lv_at hl 1 rfl) ?_
      refine lv_iload hx hb dM_open_59 (lv_at hl 0 rfl) ?_
      refine lv_if_ne (tgt := 68) hx hb dM_open_61 (by decide) (fun h => absurd h (by decide)) (fun _ => ?_)
      refine lv_iconst (v := 1) hx hb dM_open_64 (by decide) ?_
      refine lv_goto (tgt := 81) hx hb dM_open_65 (by decide) ?_
      refine kw_put (w' := lm G b 1 (σ 0 1) (σ 0 2) u0.1 u0.2.1 u0.2.2 (σ 1) (σ 2) (σ 3) (σ 4) (σ 5) (σ 6) (σ 7) (σ 8) (σ 9) (σ 10) (σ 11) (σ 12) (σ 13) (σ 14) (σ 15) (σ 16) (σ 17) (σ 18) (σ 19) (σ 20) (σ 21) (σ 22)) (v := .int 1) (ty := .int) hx hb hg hin_M tyM tyM_ok nM hown hK hP hD hS 0 rfl rfl 0 (by decide) (hg _ gw_494) (fun _ h => h) rfl (by decide +kernel) rfl rfl (Nat.le_of_ble_eq_true rfl) dM_open_81 rfl (fun H locs hP hD hS => ?_)
      refine lv_aload_n hx hb dM_open_84 rfl (lv_at hl 1 rfl) ?_
      refine va_get (v := .int 1) hx hb hg hin_M hown hK hP 0 rfl rfl 0 (by decide) (hg _ gw_494) (fun _ h => h) rfl dM_open_85 ?_
      refine lv_if_le (tgt := 93) hx hb dM_open_88 (by decide) (fun h => absurd h (by decide)) (fun _ => ?_)
      refine lv_iconst (v := 0) hx hb dM_open_91 (by decide) ?_
      have hk9 : kM_open σ amount per n9 how rnd still = (0, mkM 1 (σ 0 1) (σ 0 2) (σ 0 3) (σ 0 4) (σ 0 5) (σ 1) (σ 2) (σ 3) (σ 4) (σ 5) (σ 6) (σ 7) (σ 8) (σ 9) (σ 10) (σ 11) (σ 12) (σ 13) (σ 14) (σ 15) (σ 16) (σ 17) (σ 18) (σ 19) (σ 20) (σ 21) (σ 22)) := by subst e_2 e_5; unfold kM_open; rw [if_neg h3, if_pos h6]
      exact kx_iret hx hb hr hlocks hK hP hD hS (by rw [hk9]) (u := (u0.1, u0.2.1, u0.2.2)) (by rw [hk9] <;> rfl) dM_open_92
    · skip
      refine lv_iload_n hx hb dM_open_21 rfl (lv_at hl 3 rfl) ?_
      refine lv_iconst (v := 1) hx hb dM_open_22 (by decide) ?_
      refine lv_bipush (v := 36) hx hb dM_open_23 (by decide) ?_
      refine kp_reti (va_runS (As := [.int n9, .int 1, .int 36]) (rest := []) ⟨hx, hb, hml, hown, hg⟩ (c_M_within l n9 (1 : Int32) (36 : Int32)) ⟨kw_cB (n := 3) hg gw_604 gw_2 gw_602 (by decide +kernel) (by decide +kernel) ⟨Nat.le_of_ble_eq_true rfl, Nat.le_of_ble_eq_true rfl⟩ rfl rfl, hg _ gw_603⟩ kp_pre rfl rfl hl.1 rfl (lv_room (Nat.le_of_ble_eq_true rfl)) dM_open_25 ⟨Nat.le_of_ble_eq_true rfl, Nat.le_of_ble_eq_true rfl⟩) ?_
      refine lv_topi (fun r_7 e_8 => ?_)
      replace e_8 := e_8.symm
      refine lv_if_eq (tgt := 55) hx hb dM_open_28 (by decide) (fun h9 => ?_) (fun h9 => ?_)
      · skip
        refine lv_iconst (v := 0) hx hb dM_open_55 (by decide) ?_
        refine lv_istore hx hb dM_open_56 hl (by decide) rfl (fun ls hl => ?_)
        have hl : lv_has ls 9 [(7, .int 0), (0, .ref (b 0)), (1, .int amount), (2, .int per), (3, .int n9), (4, .int how), (5, .int rnd), (6, .int still)] := hl
        refine lv_aload_n hx hb dM_open_58 rfl (lv_at hl 1 rfl) ?_
        refine lv_iload hx hb dM_open_59 (lv_at hl 0 rfl) ?_
        refine lv_if_ne (tgt := 68) hx hb dM_open_61 (by decide) (fun h => absurd h (by decide)) (fun _ => ?_)
        refine lv_iconst (v := 1) hx hb dM_open_64 (by decide) ?_
        refine lv_goto (tgt := 81) hx hb dM_open_65 (by decide) ?_
        refine kw_put (w' := lm G b 1 (σ 0 1) (σ 0 2) u0.1 u0.2.1 u0.2.2 (σ 1) (σ 2) (σ 3) (σ 4) (σ 5) (σ 6) (σ 7) (σ 8) (σ 9) (σ 10) (σ 11) (σ 12) (σ 13) (σ 14) (σ 15) (σ 16) (σ 17) (σ 18) (σ 19) (σ 20) (σ 21) (σ 22)) (v := .int 1) (ty := .int) hx hb hg hin_M tyM tyM_ok nM hown hK hP hD hS 0 rfl rfl 0 (by decide) (hg _ gw_494) (fun _ h => h) rfl (by decide +kernel) rfl rfl (Nat.le_of_ble_eq_true rfl) dM_open_81 rfl (fun H locs hP hD hS => ?_)
        refine lv_aload_n hx hb dM_open_84 rfl (lv_at hl 1 rfl) ?_
        refine va_get (v := .int 1) hx hb hg hin_M hown hK hP 0 rfl rfl 0 (by decide) (hg _ gw_494) (fun _ h => h) rfl dM_open_85 ?_
        refine lv_if_le (tgt := 93) hx hb dM_open_88 (by decide) (fun h => absurd h (by decide)) (fun _ => ?_)
        refine lv_iconst (v := 0) hx hb dM_open_91 (by decide) ?_
        have hk9 : kM_open σ amount per n9 how rnd still = (0, mkM 1 (σ 0 1) (σ 0 2) (σ 0 3) (σ 0 4) (σ 0 5) (σ 1) (σ 2) (σ 3) (σ 4) (σ 5) (σ 6) (σ 7) (σ 8) (σ 9) (σ 10) (σ 11) (σ 12) (σ 13) (σ 14) (σ 15) (σ 16) (σ 17) (σ 18) (σ 19) (σ 20) (σ 21) (σ 22)) := by subst e_2 e_5 e_8; unfold kM_open; rw [if_neg h3, if_neg h6, if_pos h9]
        exact kx_iret hx hb hr hlocks hK hP hD hS (by rw [hk9]) (u := (u0.1, u0.2.1, u0.2.2)) (by rw [hk9] <;> rfl) dM_open_92
      · skip
        refine lv_iload hx hb dM_open_31 (lv_at hl 4 rfl) ?_
        refine lv_iconst (v := 0) hx hb dM_open_33 (by decide) ?_
        refine lv_iconst (v := 3) hx hb dM_open_34 (by decide) ?_
        refine kp_reti (va_runS (As := [.int how, .int 0, .int 3]) (rest := []) ⟨hx, hb, hml, hown, hg⟩ (c_M_within l how (0 : Int32) (3 : Int32)) ⟨kw_cB (n := 3) hg gw_604 gw_2 gw_602 (by decide +kernel) (by decide +kernel) ⟨Nat.le_of_ble_eq_true rfl, Nat.le_of_ble_eq_true rfl⟩ rfl rfl, hg _ gw_603⟩ kp_pre rfl rfl hl.1 rfl (lv_room (Nat.le_of_ble_eq_true rfl)) dM_open_35 ⟨Nat.le_of_ble_eq_true rfl, Nat.le_of_ble_eq_true rfl⟩) ?_
        refine lv_topi (fun r_10 e_11 => ?_)
        replace e_11 := e_11.symm
        refine lv_if_eq (tgt := 55) hx hb dM_open_38 (by decide) (fun h12 => ?_) (fun h12 => ?_)
        · skip
          refine lv_iconst (v := 0) hx hb dM_open_55 (by decide) ?_
          refine lv_istore hx hb dM_open_56 hl (by decide) rfl (fun ls hl => ?_)
          have hl : lv_has ls 9 [(7, .int 0), (0, .ref (b 0)), (1, .int amount), (2, .int per), (3, .int n9), (4, .int how), (5, .int rnd), (6, .int still)] := hl
          refine lv_aload_n hx hb dM_open_58 rfl (lv_at hl 1 rfl) ?_
          refine lv_iload hx hb dM_open_59 (lv_at hl 0 rfl) ?_
          refine lv_if_ne (tgt := 68) hx hb dM_open_61 (by decide) (fun h => absurd h (by decide)) (fun _ => ?_)
          refine lv_iconst (v := 1) hx hb dM_open_64 (by decide) ?_
          refine lv_goto (tgt := 81) hx hb dM_open_65 (by decide) ?_
          refine kw_put (w' := lm G b 1 (σ 0 1) (σ 0 2) u0.1 u0.2.1 u0.2.2 (σ 1) (σ 2) (σ 3) (σ 4) (σ 5) (σ 6) (σ 7) (σ 8) (σ 9) (σ 10) (σ 11) (σ 12) (σ 13) (σ 14) (σ 15) (σ 16) (σ 17) (σ 18) (σ 19) (σ 20) (σ 21) (σ 22)) (v := .int 1) (ty := .int) hx hb hg hin_M tyM tyM_ok nM hown hK hP hD hS 0 rfl rfl 0 (by decide) (hg _ gw_494) (fun _ h => h) rfl (by decide +kernel) rfl rfl (Nat.le_of_ble_eq_true rfl) dM_open_81 rfl (fun H locs hP hD hS => ?_)
          refine lv_aload_n hx hb dM_open_84 rfl (lv_at hl 1 rfl) ?_
          refine va_get (v := .int 1) hx hb hg hin_M hown hK hP 0 rfl rfl 0 (by decide) (hg _ gw_494) (fun _ h => h) rfl dM_open_85 ?_
          refine lv_if_le (tgt := 93) hx hb dM_open_88 (by decide) (fun h => absurd h (by decide)) (fun _ => ?_)
          refine lv_iconst (v := 0) hx hb dM_open_91 (by decide) ?_
          have hk9 : kM_open σ amount per n9 how rnd still = (0, mkM 1 (σ 0 1) (σ 0 2) (σ 0 3) (σ 0 4) (σ 0 5) (σ 1) (σ 2) (σ 3) (σ 4) (σ 5) (σ 6) (σ 7) (σ 8) (σ 9) (σ 10) (σ 11) (σ 12) (σ 13) (σ 14) (σ 15) (σ 16) (σ 17) (σ 18) (σ 19) (σ 20) (σ 21) (σ 22)) := by subst e_2 e_5 e_8 e_11; unfold kM_open; rw [if_neg h3, if_neg h6, if_neg h9, if_pos h12]
          exact kx_iret hx hb hr hlocks hK hP hD hS (by rw [hk9]) (u := (u0.1, u0.2.1, u0.2.2)) (by rw [hk9] <;> rfl) dM_open_92
        · skip
          refine lv_iload hx hb dM_open_41 (lv_at hl 5 rfl) ?_
          refine lv_iconst (v := 0) hx hb dM_open_43 (by decide) ?_
          refine lv_iconst (v := 3) hx hb dM_open_44 (by decide) ?_
          refine kp_reti (va_runS (As := [.int rnd, .int 0, .int 3]) (rest := []) ⟨hx, hb, hml, hown, hg⟩ (c_M_within l rnd (0 : Int32) (3 : Int32)) ⟨kw_cB (n := 3) hg gw_604 gw_2 gw_602 (by decide +kernel) (by decide +kernel) ⟨Nat.le_of_ble_eq_true rfl, Nat.le_of_ble_eq_true rfl⟩ rfl rfl, hg _ gw_603⟩ kp_pre rfl rfl hl.1 rfl (lv_room (Nat.le_of_ble_eq_true rfl)) dM_open_45 ⟨Nat.le_of_ble_eq_true rfl, Nat.le_of_ble_eq_true rfl⟩) ?_
          refine lv_topi (fun r_13 e_14 => ?_)
          replace e_14 := e_14.symm
          refine lv_if_eq (tgt := 55) hx hb dM_open_48 (by decide) (fun h15 => ?_) (fun h15 => ?_)
          · skip
            refine lv_iconst (v := 0) hx hb dM_open_55 (by decide) ?_
            refine lv_istore hx hb dM_open_56 hl (by decide) rfl (fun ls hl => ?_)
            have hl : lv_has ls 9 [(7, .int 0), (0, .ref (b 0)), (1, .int amount), (2, .int per), (3, .int n9), (4, .int how), (5, .int rnd), (6, .int still)] := hl
            refine lv_aload_n hx hb dM_open_58 rfl (lv_at hl 1 rfl) ?_
            refine lv_iload hx hb dM_open_59 (lv_at hl 0 rfl) ?_
            refine lv_if_ne (tgt := 68) hx hb dM_open_61 (by decide) (fun h => absurd h (by decide)) (fun _ => ?_)
            refine lv_iconst (v := 1) hx hb dM_open_64 (by decide) ?_
            refine lv_goto (tgt := 81) hx hb dM_open_65 (by decide) ?_
            refine kw_put (w' := lm G b 1 (σ 0 1) (σ 0 2) u0.1 u0.2.1 u0.2.2 (σ 1) (σ 2) (σ 3) (σ 4) (σ 5) (σ 6) (σ 7) (σ 8) (σ 9) (σ 10) (σ 11) (σ 12) (σ 13) (σ 14) (σ 15) (σ 16) (σ 17) (σ 18) (σ 19) (σ 20) (σ 21) (σ 22)) (v := .int 1) (ty := .int) hx hb hg hin_M tyM tyM_ok nM hown hK hP hD hS 0 rfl rfl 0 (by decide) (hg _ gw_494) (fun _ h => h) rfl (by decide +kernel) rfl rfl (Nat.le_of_ble_eq_true rfl) dM_open_81 rfl (fun H locs hP hD hS => ?_)
            refine lv_aload_n hx hb dM_open_84 rfl (lv_at hl 1 rfl) ?_
            refine va_get (v := .int 1) hx hb hg hin_M hown hK hP 0 rfl rfl 0 (by decide) (hg _ gw_494) (fun _ h => h) rfl dM_open_85 ?_
            refine lv_if_le (tgt := 93) hx hb dM_open_88 (by decide) (fun h => absurd h (by decide)) (fun _ => ?_)
            refine lv_iconst (v := 0) hx hb dM_open_91 (by decide) ?_
            have hk9 : kM_open σ amount per n9 how rnd still = (0, mkM 1 (σ 0 1) (σ 0 2) (σ 0 3) (σ 0 4) (σ 0 5) (σ 1) (σ 2) (σ 3) (σ 4) (σ 5) (σ 6) (σ 7) (σ 8) (σ 9) (σ 10) (σ 11) (σ 12) (σ 13) (σ 14) (σ 15) (σ 16) (σ 17) (σ 18) (σ 19) (σ 20) (σ 21) (σ 22)) := by subst e_2 e_5 e_8 e_11 e_14; unfold kM_open; rw [if_neg h3, if_neg h6, if_neg h9, if_neg h12, if_pos h15]
            exact kx_iret hx hb hr hlocks hK hP hD hS (by rw [hk9]) (u := (u0.1, u0.2.1, u0.2.2)) (by rw [hk9] <;> rfl) dM_open_92
          · skip
            refine lv_iconst (v := 1) hx hb dM_open_51 (by decide) ?_
            refine lv_goto (tgt := 56) hx hb dM_open_52 (by decide) ?_
            refine lv_istore hx hb dM_open_56 hl (by decide) rfl (fun ls hl => ?_)
            have hl : lv_has ls 9 [(7, .int 1), (0, .ref (b 0)), (1, .int amount), (2, .int per), (3, .int n9), (4, .int how), (5, .int rnd), (6, .int still)] := hl
            refine lv_aload_n hx hb dM_open_58 rfl (lv_at hl 1 rfl) ?_
            refine lv_iload hx hb dM_open_59 (lv_at hl 0 rfl) ?_
            refine lv_if_ne (tgt := 68) hx hb dM_open_61 (by decide) (fun _ => ?_) (fun h => absurd h (by decide))
            refine lv_aload_n hx hb dM_open_68 rfl (lv_at hl 1 rfl) ?_
            refine va_get (v := .int (σ 0 2)) hx hb hg hin_M hown hK hP 0 rfl rfl 2 (by decide) (hg _ gw_496) (fun _ h => h) rfl dM_open_69 ?_
            refine lv_iconst (v := 3) hx hb dM_open_72 (by decide) ?_
            refine lv_icmp_ne (tgt := 80) hx hb dM_open_73 (by decide) (fun h16 => ?_) (fun h16 => ?_)
            · skip
              refine lv_iconst (v := 0) hx hb dM_open_80 (by decide) ?_
              refine kw_put (w' := lm G b 0 (σ 0 1) (σ 0 2) u0.1 u0.2.1 u0.2.2 (σ 1) (σ 2) (σ 3) (σ 4) (σ 5) (σ 6) (σ 7) (σ 8) (σ 9) (σ 10) (σ 11) (σ 12) (σ 13) (σ 14) (σ 15) (σ 16) (σ 17) (σ 18) (σ 19) (σ 20) (σ 21) (σ 22)) (v := .int 0) (ty := .int) hx hb hg hin_M tyM tyM_ok nM hown hK hP hD hS 0 rfl rfl 0 (by decide) (hg _ gw_494) (fun _ h => h) rfl (by decide +kernel) rfl rfl (Nat.le_of_ble_eq_true rfl) dM_open_81 rfl (fun H locs hP hD hS => ?_)
              refine lv_aload_n hx hb dM_open_84 rfl (lv_at hl 1 rfl) ?_
              refine va_get (v := .int 0) hx hb hg hin_M hown hK hP 0 rfl rfl 0 (by decide) (hg _ gw_494) (fun _ h => h) rfl dM_open_85 ?_
              refine lv_if_le (tgt := 93) hx hb dM_open_88 (by decide) (fun _ => ?_) (fun h => absurd h (by decide))
              refine lv_aload_n hx hb dM_open_93 rfl (lv_at hl 1 rfl) ?_
              refine va_get (v := .int (σ 0 2)) hx hb hg hin_M hown hK hP 0 rfl rfl 2 (by decide) (hg _ gw_496) (fun _ h => h) rfl dM_open_94 ?_
              refine lv_istore hx hb dM_open_97 hl (by decide) rfl (fun ls hl => ?_)
              have hl : lv_has ls 9 [(8, .int (σ 0 2)), (7, .int 1), (0, .ref (b 0)), (1, .int amount), (2, .int per), (3, .int n9), (4, .int how), (5, .int rnd), (6, .int still)] := hl
              refine lv_aload_n hx hb dM_open_99 rfl (lv_at hl 2 rfl) ?_
              refine lv_dup hx hb dM_open_100 rfl ?_
              refine va_get (v := .int (σ 0 2)) hx hb hg hin_M hown hK hP 0 rfl rfl 2 (by decide) (hg _ gw_496) (fun _ h => h) rfl dM_open_101 ?_
              refine lv_iconst (v := 1) hx hb dM_open_104 (by decide) ?_
              refine lv_iadd hx hb dM_open_105 ?_
              refine kw_put (w' := lm G b 0 (σ 0 1) ((σ 0 2) + 1) u0.1 u0.2.1 u0.2.2 (σ 1) (σ 2) (σ 3) (σ 4) (σ 5) (σ 6) (σ 7) (σ 8) (σ 9) (σ 10) (σ 11) (σ 12) (σ 13) (σ 14) (σ 15) (σ 16) (σ 17) (σ 18) (σ 19) (σ 20) (σ 21) (σ 22)) (v := .int ((σ 0 2) + 1)) (ty := .int) hx hb hg hin_M tyM tyM_ok nM hown hK hP hD hS 0 rfl rfl 2 (by decide) (hg _ gw_496) (fun _ h => h) rfl (by decide +kernel) rfl rfl (Nat.le_of_ble_eq_true rfl) dM_open_106 rfl (fun H locs hP hD hS => ?_)
              refine lv_aload_n hx hb dM_open_109 rfl (lv_at hl 2 rfl) ?_
              refine va_get (v := .ref (b 3)) hx hb hg hin_M hown hK hP 0 rfl rfl 3 (by decide) (hg _ gw_497) (fun _ h => h) rfl dM_open_110 ?_
              refine lv_iload hx hb dM_open_113 (lv_at hl 0 rfl) ?_
              refine lv_aload_n hx hb dM_open_115 rfl (lv_at hl 2 rfl) ?_
              refine va_get (v := .int (σ 0 1)) hx hb hg hin_M hown hK hP 0 rfl rfl 1 (by decide) (hg _ gw_495) (fun _ h => h) rfl dM_open_116 ?_
              refine kw_iast (w' := lm G b 0 (σ 0 1) ((σ 0 2) + 1) u0.1 u0.2.1 u0.2.2 (upd (σ 1) ((σ 0 2).toNatClampNeg) (σ 0 1)) (σ 2) (σ 3) (σ 4) (σ 5) (σ 6) (σ 7) (σ 8) (σ 9) (σ 10) (σ 11) (σ 12) (σ 13) (σ 14) (σ 15) (σ 16) (σ 17) (σ 18) (σ 19) (σ 20) (σ 21) (σ 22)) (j := ((σ 0 2).toNatClampNeg)) hx hb hK hP hD hS 1 0 rfl rfl (kx_room hnl hn3 h16) rfl dM_open_119 rfl (fun H locs hP hD hS => ?_)
              refine lv_aload_n hx hb dM_open_120 rfl (lv_at hl 2 rfl) ?_
              refine va_get (v := .ref (b 12)) hx hb hg hin_M hown hK hP 0 rfl rfl 12 (by decide) (hg _ gw_506) (fun _ h => h) rfl dM_open_121 ?_
              refine lv_iload hx hb dM_open_124 (lv_at hl 0 rfl) ?_
              refine lv_aload_n hx hb dM_open_126 rfl (lv_at hl 2 rfl) ?_
              refine va_get (v := .int (σ 0 1)) hx hb hg hin_M hown hK hP 0 rfl rfl 1 (by decide) (hg _ gw_495) (fun _ h => h) rfl dM_open_127 ?_
              refine kw_iast (w' := lm G b 0 (σ 0 1) ((σ 0 2) + 1) u0.1 u0.2.1 u0.2.2 (upd (σ 1) ((σ 0 2).toNatClampNeg) (σ 0 1)) (σ 2) (σ 3) (σ 4) (σ 5) (σ 6) (σ 7) (σ 8) (σ 9) (upd (σ 10) ((σ 0 2).toNatClampNeg) (σ 0 1)) (σ 11) (σ 12) (σ 13) (σ 14) (σ 15) (σ 16) (σ 17) (σ 18) (σ 19) (σ 20) (σ 21) (σ 22)) (j := ((σ 0 2).toNatClampNeg)) hx hb hK hP hD hS 10 0 rfl rfl (kx_room hnl hn3 h16) rfl dM_open_130 rfl (fun H locs hP hD hS => ?_)
              refine lv_aload_n hx hb dM_open_131 rfl (lv_at hl 2 rfl) ?_
              refine va_get (v := .ref (b 4)) hx hb hg hin_M hown hK hP 0 rfl rfl 4 (by decide) (hg _ gw_498) (fun _ h => h) rfl dM_open_132 ?_
              refine lv_iload hx hb dM_open_135 (lv_at hl 0 rfl) ?_
              refine lv_iload_n hx hb dM_open_137 rfl (lv_at hl 4 rfl) ?_
              refine kw_iast (w' := lm G b 0 (σ 0 1) ((σ 0 2) + 1) u0.1 u0.2.1 u0.2.2 (upd (σ 1) ((σ 0 2).toNatClampNeg) (σ 0 1)) (upd (σ 2) ((σ 0 2).toNatClampNeg) per) (σ 3) (σ 4) (σ 5) (σ 6) (σ 7) (σ 8) (σ 9) (upd (σ 10) ((σ 0 2).toNatClampNeg) (σ 0 1)) (σ 11) (σ 12) (σ 13) (σ 14) (σ 15) (σ 16) (σ 17) (σ 18) (σ 19) (σ 20) (σ 21) (σ 22)) (j := ((σ 0 2).toNatClampNeg)) hx hb hK hP hD hS 2 0 rfl rfl (kx_room hnl hn3 h16) rfl dM_open_138 rfl (fun H locs hP hD hS => ?_)
              refine lv_aload_n hx hb dM_open_139 rfl (lv_at hl 2 rfl) ?_
              refine va_get (v := .ref (b 5)) hx hb hg hin_M hown hK hP 0 rfl rfl 5 (by decide) (hg _ gw_499) (fun _ h => h) rfl dM_open_140 ?_
              refine lv_iload hx hb dM_open_143 (lv_at hl 0 rfl) ?_
              refine lv_iload_n hx hb dM_open_145 rfl (lv_at hl 5 rfl) ?_
              refine kw_iast (w' := lm G b 0 (σ 0 1) ((σ 0 2) + 1) u0.1 u0.2.1 u0.2.2 (upd (σ 1) ((σ 0 2).toNatClampNeg) (σ 0 1)) (upd (σ 2) ((σ 0 2).toNatClampNeg) per) (upd (σ 3) ((σ 0 2).toNatClampNeg) n9) (σ 4) (σ 5) (σ 6) (σ 7) (σ 8) (σ 9) (upd (σ 10) ((σ 0 2).toNatClampNeg) (σ 0 1)) (σ 11) (σ 12) (σ 13) (σ 14) (σ 15) (σ 16) (σ 17) (σ 18) (σ 19) (σ 20) (σ 21) (σ 22)) (j := ((σ 0 2).toNatClampNeg)) hx hb hK hP hD hS 3 0 rfl rfl (kx_room hnl hn3 h16) rfl dM_open_146 rfl (fun H locs hP hD hS => ?_)
              refine lv_aload_n hx hb dM_open_147 rfl (lv_at hl 2 rfl) ?_
              refine va_get (v := .ref (b 6)) hx hb hg hin_M hown hK hP 0 rfl rfl 6 (by decide) (hg _ gw_500) (fun _ h => h) rfl dM_open_148 ?_
              refine lv_iload hx hb dM_open_151 (lv_at hl 0 rfl) ?_
              refine lv_iload hx hb dM_open_153 (lv_at hl 6 rfl) ?_
              refine kw_iast (w' := lm G b 0 (σ 0 1) ((σ 0 2) + 1) u0.1 u0.2.1 u0.2.2 (upd (σ 1) ((σ 0 2).toNatClampNeg) (σ 0 1)) (upd (σ 2) ((σ 0 2).toNatClampNeg) per) (upd (σ 3) ((σ 0 2).toNatClampNeg) n9) (upd (σ 4) ((σ 0 2).toNatClampNeg) how) (σ 5) (σ 6) (σ 7) (σ 8) (σ 9) (upd (σ 10) ((σ 0 2).toNatClampNeg) (σ 0 1)) (σ 11) (σ 12) (σ 13) (σ 14) (σ 15) (σ 16) (σ 17) (σ 18) (σ 19) (σ 20) (σ 21) (σ 22)) (j := ((σ 0 2).toNatClampNeg)) hx hb hK hP hD hS 4 0 rfl rfl (kx_room hnl hn3 h16) rfl dM_open_155 rfl (fun H locs hP hD hS => ?_)
              refine lv_aload_n hx hb dM_open_156 rfl (lv_at hl 2 rfl) ?_
              refine va_get (v := .ref (b 7)) hx hb hg hin_M hown hK hP 0 rfl rfl 7 (by decide) (hg _ gw_501) (fun _ h => h) rfl dM_open_157 ?_
              refine lv_iload hx hb dM_open_160 (lv_at hl 0 rfl) ?_
              refine lv_iload hx hb dM_open_162 (lv_at hl 7 rfl) ?_
              refine kw_iast (w' := lm G b 0 (σ 0 1) ((σ 0 2) + 1) u0.1 u0.2.1 u0.2.2 (upd (σ 1) ((σ 0 2).toNatClampNeg) (σ 0 1)) (upd (σ 2) ((σ 0 2).toNatClampNeg) per) (upd (σ 3) ((σ 0 2).toNatClampNeg) n9) (upd (σ 4) ((σ 0 2).toNatClampNeg) how) (upd (σ 5) ((σ 0 2).toNatClampNeg) rnd) (σ 6) (σ 7) (σ 8) (σ 9) (upd (σ 10) ((σ 0 2).toNatClampNeg) (σ 0 1)) (σ 11) (σ 12) (σ 13) (σ 14) (σ 15) (σ 16) (σ 17) (σ 18) (σ 19) (σ 20) (σ 21) (σ 22)) (j := ((σ 0 2).toNatClampNeg)) hx hb hK hP hD hS 5 0 rfl rfl (kx_room hnl hn3 h16) rfl dM_open_164 rfl (fun H locs hP hD hS => ?_)
              refine lv_aload_n hx hb dM_open_165 rfl (lv_at hl 2 rfl) ?_
              refine va_get (v := .ref (b 8)) hx hb hg hin_M hown hK hP 0 rfl rfl 8 (by decide) (hg _ gw_502) (fun _ h => h) rfl dM_open_166 ?_
              refine lv_iload hx hb dM_open_169 (lv_at hl 0 rfl) ?_
              refine lv_iload hx hb dM_open_171 (lv_at hl 8 rfl) ?_
              refine kw_zast (w' := lm G b 0 (σ 0 1) ((σ 0 2) + 1) u0.1 u0.2.1 u0.2.2 (upd (σ 1) ((σ 0 2).toNatClampNeg) (σ 0 1)) (upd (σ 2) ((σ 0 2).toNatClampNeg) per) (upd (σ 3) ((σ 0 2).toNatClampNeg) n9) (upd (σ 4) ((σ 0 2).toNatClampNeg) how) (upd (σ 5) ((σ 0 2).toNatClampNeg) rnd) (upd (σ 6) ((σ 0 2).toNatClampNeg) still) (σ 7) (σ 8) (σ 9) (upd (σ 10) ((σ 0 2).toNatClampNeg) (σ 0 1)) (σ 11) (σ 12) (σ 13) (σ 14) (σ 15) (σ 16) (σ 17) (σ 18) (σ 19) (σ 20) (σ 21) (σ 22)) (j := ((σ 0 2).toNatClampNeg)) hx hb hK hP hD hS 6 1 rfl rfl (kx_room hnl hn3 h16) rfl (kz_vnar hst) dM_open_173 rfl (fun H locs hP hD hS => ?_)
              refine lv_aload_n hx hb dM_open_174 rfl (lv_at hl 2 rfl) ?_
              refine va_get (v := .ref (b 9)) hx hb hg hin_M hown hK hP 0 rfl rfl 9 (by decide) (hg _ gw_503) (fun _ h => h) rfl dM_open_175 ?_
              refine lv_iload hx hb dM_open_178 (lv_at hl 0 rfl) ?_
              refine lv_iload_n hx hb dM_open_180 rfl (lv_at hl 3 rfl) ?_
              refine kw_iast (w' := lm G b 0 (σ 0 1) ((σ 0 2) + 1) u0.1 u0.2.1 u0.2.2 (upd (σ 1) ((σ 0 2).toNatClampNeg) (σ 0 1)) (upd (σ 2) ((σ 0 2).toNatClampNeg) per) (upd (σ 3) ((σ 0 2).toNatClampNeg) n9) (upd (σ 4) ((σ 0 2).toNatClampNeg) how) (upd (σ 5) ((σ 0 2).toNatClampNeg) rnd) (upd (σ 6) ((σ 0 2).toNatClampNeg) still) (upd (σ 7) ((σ 0 2).toNatClampNeg) amount) (σ 8) (σ 9) (upd (σ 10) ((σ 0 2).toNatClampNeg) (σ 0 1)) (σ 11) (σ 12) (σ 13) (σ 14) (σ 15) (σ 16) (σ 17) (σ 18) (σ 19) (σ 20) (σ 21) (σ 22)) (j := ((σ 0 2).toNatClampNeg)) hx hb hK hP hD hS 7 0 rfl rfl (kx_room hnl hn3 h16) rfl dM_open_181 rfl (fun H locs hP hD hS => ?_)
              refine lv_aload_n hx hb dM_open_182 rfl (lv_at hl 2 rfl) ?_
              refine lv_iload hx hb dM_open_183 (lv_at hl 0 rfl) ?_
              refine lv_iload_n hx hb dM_open_185 rfl (lv_at hl 3 rfl) ?_
              refine kx_retv0 (va_runV (C := RM) (As := [.int (σ 0 2), .int amount]) (rest := []) ⟨hx, hb, hml, hown, hg⟩ (c_M_reckon l D G b (mkM 0 (σ 0 1) ((σ 0 2) + 1) (σ 0 3) (σ 0 4) (σ 0 5) (upd (σ 1) ((σ 0 2).toNatClampNeg) (σ 0 1)) (upd (σ 2) ((σ 0 2).toNatClampNeg) per) (upd (σ 3) ((σ 0 2).toNatClampNeg) n9) (upd (σ 4) ((σ 0 2).toNatClampNeg) how) (upd (σ 5) ((σ 0 2).toNatClampNeg) rnd) (upd (σ 6) ((σ 0 2).toNatClampNeg) still) (upd (σ 7) ((σ 0 2).toNatClampNeg) amount) (σ 8) (σ 9) (upd (σ 10) ((σ 0 2).toNatClampNeg) (σ 0 1)) (σ 11) (σ 12) (σ 13) (σ 14) (σ 15) (σ 16) (σ 17) (σ 18) (σ 19) (σ 20) (σ 21) (σ 22)) (u0.1, u0.2.1, u0.2.2) (σ 0 2) amount _ (kx_room hnl hn3 h16) (by subst e_2 e_5 e_8 e_11 e_14; exact (hpp h9 h16).1) (by subst e_2 e_5 e_8 e_11 e_14; exact (hpp h9 h16).2)) ⟨kw_cB (n := 2) hg gw_629 gw_2 gw_627 (by decide +kernel) (by decide +kernel) ⟨Nat.le_of_ble_eq_true rfl, Nat.le_of_ble_eq_true rfl⟩ rfl rfl, hg _ gw_628, hg _ gw_746⟩ (kw_preV (q0 := 0) hK hP hD rfl rfl) rfl rfl hl.1 rfl (lv_room (Nat.le_of_ble_eq_true rfl)) dM_open_186 ⟨Nat.le_of_ble_eq_true rfl, Nat.le_of_ble_eq_true rfl⟩) hP hD hS (fun _ h => Or.inr h) (fun u_17 u_18 u_19 H locs hP hD hS => ?_)
              obtain ⟨S_20, e_21⟩ : ∃ z : KS, (kM_reckon (mkM 0 (σ 0 1) ((σ 0 2) + 1) (σ 0 3) (σ 0 4) (σ 0 5) (upd (σ 1) ((σ 0 2).toNatClampNeg) (σ 0 1)) (upd (σ 2) ((σ 0 2).toNatClampNeg) per) (upd (σ 3) ((σ 0 2).toNatClampNeg) n9) (upd (σ 4) ((σ 0 2).toNatClampNeg) how) (upd (σ 5) ((σ 0 2).toNatClampNeg) rnd) (upd (σ 6) ((σ 0 2).toNatClampNeg) still) (upd (σ 7) ((σ 0 2).toNatClampNeg) amount) (σ 8) (σ 9) (upd (σ 10) ((σ 0 2).toNatClampNeg) (σ 0 1)) (σ 11) (σ 12) (σ 13) (σ 14) (σ 15) (σ 16) (σ 17) (σ 18) (σ 19) (σ 20) (σ 21) (σ 22)) (σ 0 2) amount) = z := ⟨_, rfl⟩
              rw [e_21] at hP hD
              refine lv_iload hx hb dM_open_189 (lv_at hl 0 rfl) ?_
              have hk9 : kM_open σ amount per n9 how rnd still = (σ 0 2, S_20) := by subst e_2 e_5 e_8 e_11 e_14 e_21; unfold kM_open; rw [if_neg h3, if_neg h6, if_neg h9, if_neg h12, if_neg h15, if_neg h16]
              exact kx_iret hx hb hr hlocks hK hP hD hS (by rw [hk9]) (u := (u_17, u_18, u_19)) (by rw [hk9] <;> rfl) dM_open_191
            · skip
              refine lv_iconst (v := 2) hx hb dM_open_76 (by decide) ?_
              refine lv_goto (tgt := 81) hx hb dM_open_77 (by decide) ?_
              refine kw_put (w' := lm G b 2 (σ 0 1) (σ 0 2) u0.1 u0.2.1 u0.2.2 (σ 1) (σ 2) (σ 3) (σ 4) (σ 5) (σ 6) (σ 7) (σ 8) (σ 9) (σ 10) (σ 11) (σ 12) (σ 13) (σ 14) (σ 15) (σ 16) (σ 17) (σ 18) (σ 19) (σ 20) (σ 21) (σ 22)) (v := .int 2) (ty := .int) hx hb hg hin_M tyM tyM_ok nM hown hK hP hD hS 0 rfl rfl 0 (by decide) (hg _ gw_494) (fun _ h => h) rfl (by decide +kernel) rfl rfl (Nat.le_of_ble_eq_true rfl) dM_open_81 rfl (fun H locs hP hD hS => ?_)
              refine lv_aload_n hx hb dM_open_84 rfl (lv_at hl 1 rfl) ?_
              refine va_get (v := .int 2) hx hb hg hin_M hown hK hP 0 rfl rfl 0 (by decide) (hg _ gw_494) (fun _ h => h) rfl dM_open_85 ?_
              refine lv_if_le (tgt := 93) hx hb dM_open_88 (by decide) (fun h => absurd h (by decide)) (fun _ => ?_)
              refine lv_iconst (v := 0) hx hb dM_open_91 (by decide) ?_
              have hk9 : kM_open σ amount per n9 how rnd still = (0, mkM 2 (σ 0 1) (σ 0 2) (σ 0 3) (σ 0 4) (σ 0 5) (σ 1) (σ 2) (σ 3) (σ 4) (σ 5) (σ 6) (σ 7) (σ 8) (σ 9) (σ 10) (σ 11) (σ 12) (σ 13) (σ 14) (σ 15) (σ 16) (σ 17) (σ 18) (σ 19) (σ 20) (σ 21) (σ 22)) := by subst e_2 e_5 e_8 e_11 e_14; unfold kM_open; rw [if_neg h3, if_neg h6, if_neg h9, if_neg h12, if_neg h15, if_pos h16]
              exact kx_iret hx hb hr hlocks hK hP hD hS (by rw [hk9]) (u := (u0.1, u0.2.1, u0.2.2)) (by rw [hk9] <;> rfl) dM_open_92
