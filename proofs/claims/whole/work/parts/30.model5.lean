/-! the reference: levels, payments, opening -/
theorem kv_up {j k m : Int32} (h : j.toInt ≤ k.toInt) (h2 : ¬ m < k) (hm : m.toInt ≤ 36) : j.toInt ≤ (k + 1).toInt ∧ (k + 1).toInt = k.toInt + 1 := by
  rw [Int32.lt_iff_toInt_lt] at h2
  have e : (k + 1).toInt = k.toInt + 1 := by
    rw [Int32.toInt_add]
    have : (1 : Int32).toInt = 1 := by decide
    have := Int32.le_toInt k
    exact Int.bmod_eq_of_le (by omega) (by omega)
  omega
theorem kz_vnar {x : Int32} (h : kz_in x) : vp_nar .boolean x = x := by
  rcases h with rfl | rfl <;> rfl
def lf_lv (σ : KS) (ln : Int32) (amount : Int32) (j : Int32) (tried : Int32) : Nat → Int32 → Int32 → Int32 → Int32
  | 0, _, _, _ => 0
  | n + 1, left, before, kk => if (σ 3 ln.toNatClampNeg) < kk then (if left ≤ (0 : Int32) then 0 else 1) else (if left ≤ (0 : Int32) then (if left ≤ (0 : Int32) then 0 else 1) else (if (0 : Int32) < (tried - (kM_own σ ln left before (kM_dueDay (σ 1 ln.toNatClampNeg) kk))) then (if (tried - (kM_own σ ln left before (kM_dueDay (σ 1 ln.toNatClampNeg) kk))) ≤ left then (lf_lv σ ln amount j tried n (left - (tried - (kM_own σ ln left before (kM_dueDay (σ 1 ln.toNatClampNeg) kk)))) (kM_dueDay (σ 1 ln.toNatClampNeg) kk) (kk + 1)) else (lf_lv σ ln amount j tried n (0 : Int32) (kM_dueDay (σ 1 ln.toNatClampNeg) kk) (kk + 1))) else (lf_lv σ ln amount j tried n left (kM_dueDay (σ 1 ln.toNatClampNeg) kk) (kk + 1))))
def lok_lv (σ : KS) (ln : Int32) (amount : Int32) (j : Int32) (tried : Int32) : Nat → Int32 → Int32 → Int32 → Bool
  | 0, _, _, _ => false
  | n + 1, left, before, kk => if (σ 3 ln.toNatClampNeg) < kk then (if left ≤ (0 : Int32) then true else true) else (if left ≤ (0 : Int32) then (if left ≤ (0 : Int32) then true else true) else (if (0 : Int32) < (tried - (kM_own σ ln left before (kM_dueDay (σ 1 ln.toNatClampNeg) kk))) then (if (tried - (kM_own σ ln left before (kM_dueDay (σ 1 ln.toNatClampNeg) kk))) ≤ left then (lok_lv σ ln amount j tried n (left - (tried - (kM_own σ ln left before (kM_dueDay (σ 1 ln.toNatClampNeg) kk)))) (kM_dueDay (σ 1 ln.toNatClampNeg) kk) (kk + 1)) else (lok_lv σ ln amount j tried n (0 : Int32) (kM_dueDay (σ 1 ln.toNatClampNeg) kk) (kk + 1))) else (lok_lv σ ln amount j tried n left (kM_dueDay (σ 1 ln.toNatClampNeg) kk) (kk + 1))))
def kM_leaves (σ : KS) (ln : Int32) (amount : Int32) (j : Int32) (tried : Int32) : Int32 := lf_lv σ ln amount j tried ((37 - j.toInt).toNat + 1) amount (σ 0 1) j
abbrev wgM_leaves : List Cond := .code yM_leaves cM_leaves 10 (some .boolean) :: GW
abbrev rm_M_leaves : Room := { frames := 6, cells := 0, slots := 0, locals := 143 }
theorem lok_lv_ok (σ : KS) (ln amount j tried : Int32) (hmo : (σ 3 ln.toNatClampNeg).toInt ≤ 36) : ∀ (n : Nat) (left before kk : Int32), 37 - kk.toInt ≤ n → lok_lv σ ln amount j tried (n + 1) left before kk = true := by
  intro n
  induction n with
  | zero =>
    intro left before kk h
    unfold lok_lv
    rw [if_pos (show σ 3 ln.toNatClampNeg < kk by rw [Int32.lt_iff_toInt_lt]; omega)]
    split <;> rfl
  | succ n ih =>
    intro left before kk h
    unfold lok_lv
    split
    · split <;> rfl
    · rename_i h2
      have := (kv_up (Int.le_refl _) h2 hmo).2
      repeat' split
      all_goals first | rfl | exact ih _ _ _ (by omega)
set_option maxRecDepth 100000 in
set_option maxHeartbeats 4000000 in
theorem c_M_leaves (l : Launch) (D : va_G) (G : Nat → ClassId) (b : Nat → Nat) (σ : KS) (u0 : Int32 × Int32 × Int32) (ln : Int32) (amount : Int32) (j : Int32) (tried : Int32) (sz : Nat) (hln : vp_in ln 3) (hdd : ∀ k : Int32, j.toInt ≤ k.toInt → ¬ σ 3 ln.toNatClampNeg < k → kM_dueDay (σ 1 ln.toNatClampNeg) k ≤ 1073741824) (hmo : (σ 3 ln.toNatClampNeg).toInt ≤ 36) : Met l yM_leaves wgM_leaves rm_M_leaves (kw_Pc D vwCl (gt G) [.ref (b 0), .int ln, .int amount, .int j, .int tried] (mcells G b (scr σ u0)) sz) (kx_i D vwCl (gt G) (mcells G b (scr σ u0)) sz (kM_leaves σ ln amount j tried) (fun u => mcells G b (scr σ u))) 0 0 (va_A (mcells G b (scr σ u0)) sz) := by
  refine Met.ofW (cc := cM_leaves) (maxL := 10) (ret := (some .boolean)) (by decide) rfl ?_
  intro p e s m args below meth c s₁ B hml hv
  have hx := B.exec
  have hb := B.bytes
  have hr := B.returns
  have hts := atoms_spec (ws := wgM_leaves) B.pre
  have hg : ∀ w ∈ GW, w.before args s = true := fun w h => hts w (List.mem_cons_of_mem _ h)
  have hown : s.vm.findClass RM = some m.cls := findClass_of_methodNamed B.named
  have hlocks := B.notSynchronized
  obtain ⟨hv, hsz, hP, hK, hD0⟩ := hv
  subst hsz
  have hD := hD0.self (sz := s.heap.size)
  have hS : va_S (va_A (mcells G b (scr σ u0)) s.heap.size) s.heap s.heap [] := va_S.rf
  refine kw_entry [.ref (b 0), .int ln, .int amount, .int j, .int tried] hv (Nat.le_of_ble_eq_true rfl) (fun ls hl => ?_)
  have hl : lv_has ls 10 [(0, .ref (b 0)), (1, .int ln), (2, .int amount), (3, .int j), (4, .int tried)] := hl
  refine lv_iload_n hx hb dM_leaves_0 rfl (lv_at hl 2 rfl) ?_
  refine lv_istore hx hb dM_leaves_1 hl (by decide) rfl (fun ls hl => ?_)
  have hl : lv_has ls 10 [(5, .int amount), (0, .ref (b 0)), (1, .int ln), (2, .int amount), (3, .int j), (4, .int tried)] := hl
  refine lv_aload_n hx hb dM_leaves_3 rfl (lv_at hl 1 rfl) ?_
  refine va_get (v := .int (σ 0 1)) hx hb hg hin_M hown hK hP 0 rfl rfl 1 (by decide) (hg _ gw_495) (fun _ h => h) rfl dM_leaves_4 ?_
  refine lv_istore hx hb dM_leaves_7 hl (by decide) rfl (fun ls hl => ?_)
  have hl : lv_has ls 10 [(6, .int (σ 0 1)), (5, .int amount), (0, .ref (b 0)), (1, .int ln), (2, .int amount), (3, .int j), (4, .int tried)] := hl
  refine lv_iload_n hx hb dM_leaves_9 rfl (lv_at hl 5 rfl) ?_
  refine lv_istore hx hb dM_leaves_10 hl (by decide) rfl (fun ls hl => ?_)
  have hl : lv_has ls 10 [(7, .int j), (6, .int (σ 0 1)), (5, .int amount), (0, .ref (b 0)), (1, .int ln), (2, .int amount), (3, .int j), (4, .int tried)] := hl
  have loop : ∀ (n : Nat) (left : Int32) (before : Int32) (kk : Int32) (w3 : Int32) (w4 : Int32) (w5 : Int32) (ls : Array Slot) (H : Heap) (locs : List Loc), lok_lv σ ln amount j tried n left before kk = true → lf_lv σ ln amount j tried n left before kk = kM_leaves σ ln amount j tried → (j.toInt ≤ kk.toInt) → lv_has ls 10 [(7, .int kk), (6, .int before), (5, .int left), (0, .ref (b 0)), (1, .int ln), (2, .int amount), (3, .int j), (4, .int tried)] → va_P D vwCl (lm G b (σ 0 0) (σ 0 1) (σ 0 2) w3 w4 w5 (σ 1) (σ 2) (σ 3) (σ 4) (σ 5) (σ 6) (σ 7) (σ 8) (σ 9) (σ 10) (σ 11) (σ 12) (σ 13) (σ 14) (σ 15) (σ 16) (σ 17) (σ 18) (σ 19) (σ 20) (σ 21) (σ 22)) H → va_D (va_A (mcells G b (scr σ u0)) s.heap.size) (lm G b (σ 0 0) (σ 0 1) (σ 0 2) w3 w4 w5 (σ 1) (σ 2) (σ 3) (σ 4) (σ 5) (σ 6) (σ 7) (σ 8) (σ 9) (σ 10) (σ 11) (σ 12) (σ 13) (σ 14) (σ 15) (σ 16) (σ 17) (σ 18) (σ 19) (σ 20) (σ 21) (σ 22)) → va_S (va_A (mcells G b (scr σ u0)) s.heap.size) s.heap H locs → W p l e (headSpec wgM_leaves rm_M_leaves).room s m args below meth c H locs 0 0 (MQ below (kx_i D vwCl (gt G) (mcells G b (scr σ u0)) s.heap.size (kM_leaves σ ln amount j tried) (fun u => mcells G b (scr σ u))) args s 0 0 (va_A (mcells G b (scr σ u0)) s.heap.size)) (F0 m 12 ls []) := by
    intro n
    induction n with
    | zero => intro left before kk w3 w4 w5 ls H locs hok; exact absurd hok (by unfold lok_lv; decide)
    | succ n ih =>
      intro left before kk w3 w4 w5 ls H locs hok hk hi hl hP hD hS
      refine lv_iload hx hb dM_leaves_12 (lv_at hl 0 rfl) ?_
      refine lv_aload_n hx hb dM_leaves_14 rfl (lv_at hl 3 rfl) ?_
      refine va_get (v := .ref (b 5)) hx hb hg hin_M hown hK hP 0 rfl rfl 5 (by decide) (hg _ gw_499) (fun _ h => h) rfl dM_leaves_15 ?_
      refine lv_iload_n hx hb dM_leaves_18 rfl (lv_at hl 4 rfl) ?_
      refine kw_iald (v := σ 3 ln.toNatClampNeg) (j := ln.toNatClampNeg) hx hb hK hP 3 0 rfl rfl hln rfl rfl dM_leaves_19 ?_
      refine lv_icmp_gt (tgt := 96) hx hb dM_leaves_20 (by decide) (fun h1 => ?_) (fun h1 => ?_)
      · skip
        refine lv_iload hx hb dM_leaves_96 (lv_at hl 2 rfl) ?_
        refine lv_if_le (tgt := 105) hx hb dM_leaves_98 (by decide) (fun h2 => ?_) (fun h2 => ?_)
        · skip
          refine lv_iconst (v := 0) hx hb dM_leaves_105 (by decide) ?_
          have hk9 : kM_leaves σ ln amount j tried = 0 := by rw [← hk, lf_lv, if_pos h1, if_pos h2]
          exact kx_zret hx hb hr (by decide) hlocks hK hP hD hS hk9.symm (u := (w3, w4, w5)) rfl dM_leaves_106
        · skip
          refine lv_iconst (v := 1) hx hb dM_leaves_101 (by decide) ?_
          refine lv_goto (tgt := 106) hx hb dM_leaves_102 (by decide) ?_
          have hk9 : kM_leaves σ ln amount j tried = 1 := by rw [← hk, lf_lv, if_pos h1, if_neg h2]
          exact kx_zret hx hb hr (by decide) hlocks hK hP hD hS hk9.symm (u := (w3, w4, w5)) rfl dM_leaves_106
      · skip
        refine lv_iload hx hb dM_leaves_23 (lv_at hl 2 rfl) ?_
        refine lv_if_le (tgt := 96) hx hb dM_leaves_25 (by decide) (fun h3 => ?_) (fun h3 => ?_)
        · skip
          refine lv_iload hx hb dM_leaves_96 (lv_at hl 2 rfl) ?_
          refine lv_if_le (tgt := 105) hx hb dM_leaves_98 (by decide) (fun h4 => ?_) (fun h4 => ?_)
          · skip
            refine lv_iconst (v := 0) hx hb dM_leaves_105 (by decide) ?_
            have hk9 : kM_leaves σ ln amount j tried = 0 := by rw [← hk, lf_lv, if_neg h1, if_pos h3, if_pos h4]
            exact kx_zret hx hb hr (by decide) hlocks hK hP hD hS hk9.symm (u := (w3, w4, w5)) rfl dM_leaves_106
          · skip
            refine lv_iconst (v := 1) hx hb dM_leaves_101 (by decide) ?_
            refine lv_goto (tgt := 106) hx hb dM_leaves_102 (by decide) ?_
            have hk9 : kM_leaves σ ln amount j tried = 1 := by rw [← hk, lf_lv, if_neg h1, if_pos h3, if_neg h4]
            exact kx_zret hx hb hr (by decide) hlocks hK hP hD hS hk9.symm (u := (w3, w4, w5)) rfl dM_leaves_106
        · skip
          refine lv_aload_n hx hb dM_leaves_28 rfl (lv_at hl 3 rfl) ?_
          refine lv_aload_n hx hb dM_leaves_29 rfl (lv_at hl 3 rfl) ?_
          refine va_get (v := .ref (b 3)) hx hb hg hin_M hown hK hP 0 rfl rfl 3 (by decide) (hg _ gw_497) (fun _ h => h) rfl dM_leaves_30 ?_
          refine lv_iload_n hx hb dM_leaves_33 rfl (lv_at hl 4 rfl) ?_
          refine kw_iald (v := σ 1 ln.toNatClampNeg) (j := ln.toNatClampNeg) hx hb hK hP 1 0 rfl rfl hln rfl rfl dM_leaves_34 ?_
          refine lv_iload hx hb dM_leaves_35 (lv_at hl 0 rfl) ?_
          refine kx_reti0 (va_runV (C := RM) (As := [.int (σ 1 ln.toNatClampNeg), .int kk]) (rest := []) ⟨hx, hb, hml, hown, hg⟩ (c_M_dueDay l D G b σ (w3, w4, w5) (σ 1 ln.toNatClampNeg) kk _) ⟨kw_cB (n := 2) hg gw_638 gw_2 gw_636 (by decide +kernel) (by decide +kernel) ⟨Nat.le_of_ble_eq_true rfl, Nat.le_of_ble_eq_true rfl⟩ rfl rfl, hg _ gw_637, hg _ gw_749⟩ (kw_preV (q0 := 0) hK hP hD rfl rfl) rfl rfl hl.1 rfl (lv_room (Nat.le_of_ble_eq_true rfl)) dM_leaves_37 ⟨Nat.le_of_ble_eq_true rfl, Nat.le_of_ble_eq_true rfl⟩) hP hD hS (fun _ h => Or.inr h) (fun u_5 u_6 u_7 H locs hP hD hS => ?_)
          refine lv_topi (fun r_8 e_9 => ?_)
          replace e_9 := e_9.symm
          refine lv_istore hx hb dM_leaves_40 hl (by decide) rfl (fun ls hl => ?_)
          have hl : lv_has ls 10 [(8, .int r_8), (7, .int kk), (6, .int before), (5, .int left), (0, .ref (b 0)), (1, .int ln), (2, .int amount), (3, .int j), (4, .int tried)] := hl
          refine lv_iload hx hb dM_leaves_42 (lv_at hl 8 rfl) ?_
          refine lv_aload_n hx hb dM_leaves_44 rfl (lv_at hl 4 rfl) ?_
          refine lv_iload_n hx hb dM_leaves_45 rfl (lv_at hl 5 rfl) ?_
          refine lv_iload hx hb dM_leaves_46 (lv_at hl 3 rfl) ?_
          refine lv_iload hx hb dM_leaves_48 (lv_at hl 2 rfl) ?_
          refine lv_iload hx hb dM_leaves_50 (lv_at hl 0 rfl) ?_
          refine kx_reti0 (va_runV (C := RM) (As := [.int ln, .int left, .int before, .int r_8]) (rest := [.int tried]) ⟨hx, hb, hml, hown, hg⟩ (c_M_own l D G b σ (u_5, u_6, u_7) ln left before r_8 _ hln (by subst e_9; exact hdd kk hi h1)) ⟨kw_cB (n := 4) hg gw_648 gw_2 gw_646 (by decide +kernel) (by decide +kernel) ⟨Nat.le_of_ble_eq_true rfl, Nat.le_of_ble_eq_true rfl⟩ rfl rfl, hg _ gw_647, hg _ gw_751⟩ (kw_preV (q0 := 0) hK hP hD rfl rfl) rfl rfl hl.1 rfl (lv_room (Nat.le_of_ble_eq_true rfl)) dM_leaves_52 ⟨Nat.le_of_ble_eq_true rfl, Nat.le_of_ble_eq_true rfl⟩) hP hD hS (fun _ h => Or.inr h) (fun u_10 u_11 u_12 H locs hP hD hS => ?_)
          refine lv_topi (fun r_13 e_14 => ?_)
          replace e_14 := e_14.symm
          refine lv_isub hx hb dM_leaves_55 ?_
          refine lv_istore hx hb dM_leaves_56 hl (by decide) rfl (fun ls hl => ?_)
          have hl : lv_has ls 10 [(9, .int (tried - r_13)), (8, .int r_8), (7, .int kk), (6, .int before), (5, .int left), (0, .ref (b 0)), (1, .int ln), (2, .int amount), (3, .int j), (4, .int tried)] := hl
          refine lv_iload hx hb dM_leaves_58 (lv_at hl 0 rfl) ?_
          refine lv_if_gt (tgt := 68) hx hb dM_leaves_60 (by decide) (fun h15 => ?_) (fun h15 => ?_)
          · skip
            refine lv_iload hx hb dM_leaves_68 (lv_at hl 0 rfl) ?_
            refine lv_iload hx hb dM_leaves_70 (lv_at hl 4 rfl) ?_
            refine lv_icmp_le (tgt := 79) hx hb dM_leaves_72 (by decide) (fun h16 => ?_) (fun h16 => ?_)
            · skip
              refine lv_iload hx hb dM_leaves_79 (lv_at hl 4 rfl) ?_
              refine lv_iload hx hb dM_leaves_81 (lv_at hl 0 rfl) ?_
              refine lv_isub hx hb dM_leaves_83 ?_
              refine lv_istore hx hb dM_leaves_84 hl (by decide) rfl (fun ls hl => ?_)
              have hl : lv_has ls 10 [(5, .int (left - (tried - r_13))), (9, .int (tried - r_13)), (8, .int r_8), (7, .int kk), (6, .int before), (0, .ref (b 0)), (1, .int ln), (2, .int amount), (3, .int j), (4, .int tried)] := hl
              refine lv_iload hx hb dM_leaves_86 (lv_at hl 2 rfl) ?_
              refine lv_istore hx hb dM_leaves_88 hl (by decide) rfl (fun ls hl => ?_)
              have hl : lv_has ls 10 [(6, .int r_8), (5, .int (left - (tried - r_13))), (9, .int (tried - r_13)), (8, .int r_8), (7, .int kk), (0, .ref (b 0)), (1, .int ln), (2, .int amount), (3, .int j), (4, .int tried)] := hl
              refine lv_iinc (v := kk + 1) hx hb dM_leaves_90 hl (k := 4) rfl (by first | rfl | decide) (by decide) rfl (fun ls hl => ?_)
              have hl : lv_has ls 10 [(7, .int (kk + 1)), (6, .int r_8), (5, .int (left - (tried - r_13))), (9, .int (tried - r_13)), (8, .int r_8), (0, .ref (b 0)), (1, .int ln), (2, .int amount), (3, .int j), (4, .int tried)] := hl
              refine lv_goto (tgt := 12) hx hb dM_leaves_93 (by decide) ?_
              exact ih (left - (tried - r_13)) r_8 (kk + 1) (u_10 : Int32) (u_11 : Int32) (u_12 : Int32) _ _ _ (by subst e_9 e_14; rw [← hok, lok_lv, if_neg h1, if_neg h3, if_pos h15, if_pos h16]) (by subst e_9 e_14; rw [← hk, lf_lv, if_neg h1, if_neg h3, if_pos h15, if_pos h16]) (kv_up hi h1 hmo).1 (lv_sub hl [0, 1, 2, 5, 6, 7, 8, 9] rfl) hP hD hS
            · skip
              refine lv_iconst (v := 0) hx hb dM_leaves_75 (by decide) ?_
              refine lv_goto (tgt := 84) hx hb dM_leaves_76 (by decide) ?_
              refine lv_istore hx hb dM_leaves_84 hl (by decide) rfl (fun ls hl => ?_)
              have hl : lv_has ls 10 [(5, .int 0), (9, .int (tried - r_13)), (8, .int r_8), (7, .int kk), (6, .int before), (0, .ref (b 0)), (1, .int ln), (2, .int amount), (3, .int j), (4, .int tried)] := hl
              refine lv_iload hx hb dM_leaves_86 (lv_at hl 2 rfl) ?_
              refine lv_istore hx hb dM_leaves_88 hl (by decide) rfl (fun ls hl => ?_)
              have hl : lv_has ls 10 [(6, .int r_8), (5, .int 0), (9, .int (tried - r_13)), (8, .int r_8), (7, .int kk), (0, .ref (b 0)), (1, .int ln), (2, .int amount), (3, .int j), (4, .int tried)] := hl
              refine lv_iinc (v := kk + 1) hx hb dM_leaves_90 hl (k := 4) rfl (by first | rfl | decide) (by decide) rfl (fun ls hl => ?_)
              have hl : lv_has ls 10 [(7, .int (kk + 1)), (6, .int r_8), (5, .int 0), (9, .int (tried - r_13)), (8, .int r_8), (0, .ref (b 0)), (1, .int ln), (2, .int amount), (3, .int j), (4, .int tried)] := hl
              refine lv_goto (tgt := 12) hx hb dM_leaves_93 (by decide) ?_
              exact ih (0 : Int32) r_8 (kk + 1) (u_10 : Int32) (u_11 : Int32) (u_12 : Int32) _ _ _ (by subst e_9 e_14; rw [← hok, lok_lv, if_neg h1, if_neg h3, if_pos h15, if_neg h16]) (by subst e_9 e_14; rw [← hk, lf_lv, if_neg h1, if_neg h3, if_pos h15, if_neg h16]) (kv_up hi h1 hmo).1 (lv_sub hl [0, 1, 2, 5, 6, 7, 8, 9] rfl) hP hD hS
          · skip
            refine lv_iload hx hb dM_leaves_63 (lv_at hl 4 rfl) ?_
            refine lv_goto (tgt := 84) hx hb dM_leaves_65 (by decide) ?_
            refine lv_istore hx hb dM_leaves_84 hl (by decide) rfl (fun ls hl => ?_)
            have hl : lv_has ls 10 [(5, .int left), (9, .int (tried - r_13)), (8, .int r_8), (7, .int kk), (6, .int before), (0, .ref (b 0)), (1, .int ln), (2, .int amount), (3, .int j), (4, .int tried)] := hl
            refine lv_iload hx hb dM_leaves_86 (lv_at hl 2 rfl) ?_
            refine lv_istore hx hb dM_leaves_88 hl (by decide) rfl (fun ls hl => ?_)
            have hl : lv_has ls 10 [(6, .int r_8), (5, .int left), (9, .int (tried - r_13)), (8, .int r_8), (7, .int kk), (0, .ref (b 0)), (1, .int ln), (2, .int amount), (3, .int j), (4, .int tried)] := hl
            refine lv_iinc (v := kk + 1) hx hb dM_leaves_90 hl (k := 4) rfl (by first | rfl | decide) (by decide) rfl (fun ls hl => ?_)
            have hl : lv_has ls 10 [(7, .int (kk + 1)), (6, .int r_8), (5, .int left), (9, .int (tried - r_13)), (8, .int r_8), (0, .ref (b 0)), (1, .int ln), (2, .int amount), (3, .int j), (4, .int tried)] := hl
            refine lv_goto (tgt := 12) hx hb dM_leaves_93 (by decide) ?_
            exact ih left r_8 (kk + 1) (u_10 : Int32) (u_11 : Int32) (u_12 : Int32) _ _ _ (by subst e_9 e_14; rw [← hok, lok_lv, if_neg h1, if_neg h3, if_neg h15]) (by subst e_9 e_14; rw [← hk, lf_lv, if_neg h1, if_neg h3, if_neg h15]) (kv_up hi h1 hmo).1 (lv_sub hl [0, 1, 2, 5, 6, 7, 8, 9] rfl) hP hD hS
  exact loop ((37 - j.toInt).toNat + 1) amount (σ 0 1) j (u0.1 : Int32) (u0.2.1 : Int32) (u0.2.2 : Int32) _ _ _ (lok_lv_ok σ ln amount j tried hmo _ _ _ _ (by omega)) (by rfl) (Int.le_refl _) (lv_sub hl [0, 1, 2, 3, 4, 5, 6, 7] rfl) hP hD hS
def lf_rk (σ : KS) (ln : Int32) (amount : Int32) : Nat → Int32 → Int32 → Int32 → KS
  | 0, _, _, _ => σ
  | n + 1, jj, most, bit => if bit ≤ (0 : Int32) then (mkM (σ 0 0) (σ 0 1) (σ 0 2) (σ 0 3) (σ 0 4) (σ 0 5) (σ 1) (σ 2) (σ 3) (σ 4) (σ 5) (σ 6) (σ 7) (upd (σ 8) ln.toNatClampNeg (most + 1)) (σ 9) (σ 10) (σ 11) (σ 12) (σ 13) (σ 14) (σ 15) (σ 16) (σ 17) (σ 18) (σ 19) (σ 20) (σ 21) (σ 22)) else (lf_rk σ ln amount n jj (if (kM_leaves σ ln amount jj (most + bit)) = (0 : Int32) then most else most + bit) (bit / 2))
def lok_rk (σ : KS) (ln : Int32) (amount : Int32) : Nat → Int32 → Int32 → Int32 → Bool
  | 0, _, _, _ => false
  | n + 1, jj, most, bit => if bit ≤ (0 : Int32) then true else (lok_rk σ ln amount n jj (if (kM_leaves σ ln amount jj (most + bit)) = (0 : Int32) then most else most + bit) (bit / 2))
def kM_reckon (σ : KS) (ln : Int32) (amount : Int32) : KS := if amount = (0 : Int32) then (mkM (σ 0 0) (σ 0 1) (σ 0 2) (σ 0 3) (σ 0 4) (σ 0 5) (σ 1) (σ 2) (σ 3) (σ 4) (σ 5) (σ 6) (σ 7) (upd (σ 8) ln.toNatClampNeg 0) (σ 9) (σ 10) (σ 11) (σ 12) (σ 13) (σ 14) (σ 15) (σ 16) (σ 17) (σ 18) (σ 19) (σ 20) (σ 21) (σ 22)) else (if (kM_firstBehind σ ln) ≤ (σ 3 ln.toNatClampNeg) then (lf_rk σ ln amount 29 (kM_firstBehind σ ln) (0 : Int32) (134217728 : Int32)) else σ)
abbrev wgM_reckon : List Cond := .code yM_reckon cM_reckon 6 none :: GW
abbrev rm_M_reckon : Room := { frames := 7, cells := 0, slots := 0, locals := 172 }
theorem lok_rk_ok (σ : KS) (ln amount : Int32) : ∀ (n k : Nat) (j most : Int32), k < 2 ^ n → n ≤ 30 → lok_rk σ ln amount (n + 1) j most (nI k) = true := by
  intro n
  induction n with
  | zero =>
    intro k j most h h30
    have : k = 0 := by omega
    subst this
    unfold lok_rk
    rw [if_pos (by decide)]
  | succ n ih =>
    intro k j most h h30
    unfold lok_rk
    have h31 : 2 ^ (n + 1) ≤ 2 ^ 30 := Nat.pow_le_pow_right (by decide) h30
    have e : nI k / 2 = nI (k / 2) := pk_div (a := k) (d := 2) (by omega) (by decide) (by decide)
    rw [e]
    rw [Nat.pow_succ] at h
    repeat' split
    all_goals first | rfl | exact ih _ _ _ (by omega) (by omega)
set_option maxRecDepth 100000 in
set_option maxHeartbeats 4000000 in
theorem c_M_reckon (l : Launch) (D : va_G) (G : Nat → ClassId) (b : Nat → Nat) (σ : KS) (u0 : Int32 × Int32 × Int32) (ln : Int32) (amount : Int32) (sz : Nat) (hln : vp_in ln 3) (hdd : (∀ k : Int32, (kM_firstBehind σ ln).toInt ≤ k.toInt → ¬ σ 3 ln.toNatClampNeg < k → kM_dueDay (σ 1 ln.toNatClampNeg) k ≤ 1073741824)) (hmo : (σ 3 ln.toNatClampNeg).toInt ≤ 36) : Met l yM_reckon wgM_reckon rm_M_reckon (kw_Pc D vwCl (gt G) [.ref (b 0), .int ln, .int amount] (mcells G b (scr σ u0)) sz) (kx_v D vwCl (gt G) (mcells G b (scr σ u0)) sz (fun u => mcells G b (scr (kM_reckon σ ln amount) u))) 0 0 (va_A (mcells G b (scr σ u0)) sz) := by
  refine Met.ofW (cc := cM_reckon) (maxL := 6) (ret := none) (by decide) rfl ?_
  intro p e s m args below meth c s₁ B hml hv
  have hx := B.exec
  have hb := B.bytes
  have hr := B.returns
  have hts := atoms_spec (ws := wgM_reckon) B.pre
  have hg : ∀ w ∈ GW, w.before args s = true := fun w h => hts w (List.mem_cons_of_mem _ h)
  have hown : s.vm.findClass RM = some m.cls := findClass_of_methodNamed B.named
  have hlocks := B.notSynchronized
  obtain ⟨hv, hsz, hP, hK, hD0⟩ := hv
  subst hsz
  have hD := hD0.self (sz := s.heap.size)
  have hS : va_S (va_A (mcells G b (scr σ u0)) s.heap.size) s.heap s.heap [] := va_S.rf
  refine kw_entry [.ref (b 0), .int ln, .int amount] hv (Nat.le_of_ble_eq_true rfl) (fun ls hl => ?_)
  have hl : lv_has ls 6 [(0, .ref (b 0)), (1, .int ln), (2, .int amount)] := hl
  refine lv_iload_n hx hb dM_reckon_0 rfl (lv_at hl 2 rfl) ?_
  refine lv_if_ne (tgt := 12) hx hb dM_reckon_1 (by decide) (fun h1 => ?_) (fun h1 => ?_)
  · skip
    refine lv_aload_n hx hb dM_reckon_12 rfl (lv_at hl 0 rfl) ?_
    refine lv_iload_n hx hb dM_reckon_13 rfl (lv_at hl 1 rfl) ?_
    refine kx_reti0 (va_runV (C := RM) (As := [.int ln]) (rest := []) ⟨hx, hb, hml, hown, hg⟩ (c_M_firstBehind l D G b σ (u0.1, u0.2.1, u0.2.2) ln _ hln) ⟨kw_cB (n := 1) hg gw_632 gw_2 gw_630 (by decide +kernel) (by decide +kernel) ⟨Nat.le_of_ble_eq_true rfl, Nat.le_of_ble_eq_true rfl⟩ rfl rfl, hg _ gw_631, hg _ gw_747⟩ (kw_preV (q0 := 0) hK hP hD rfl rfl) rfl rfl hl.1 rfl (lv_room (Nat.le_of_ble_eq_true rfl)) dM_reckon_14 ⟨Nat.le_of_ble_eq_true rfl, Nat.le_of_ble_eq_true rfl⟩) hP hD hS (fun _ h => Or.inr h) (fun u_2 u_3 u_4 H locs hP hD hS => ?_)
    refine lv_topi (fun r_5 e_6 => ?_)
    replace e_6 := e_6.symm
    refine lv_istore_n hx hb dM_reckon_17 rfl hl (by decide) rfl (fun ls hl => ?_)
    have hl : lv_has ls 6 [(3, .int r_5), (0, .ref (b 0)), (1, .int ln), (2, .int amount)] := hl
    refine lv_iload_n hx hb dM_reckon_18 rfl (lv_at hl 0 rfl) ?_
    refine lv_aload_n hx hb dM_reckon_19 rfl (lv_at hl 1 rfl) ?_
    refine va_get (v := .ref (b 5)) hx hb hg hin_M hown hK hP 0 rfl rfl 5 (by decide) (hg _ gw_499) (fun _ h => h) rfl dM_reckon_20 ?_
    refine lv_iload_n hx hb dM_reckon_23 rfl (lv_at hl 2 rfl) ?_
    refine kw_iald (v := σ 3 ln.toNatClampNeg) (j := ln.toNatClampNeg) hx hb hK hP 3 0 rfl rfl hln rfl rfl dM_reckon_24 ?_
    refine lv_icmp_le (tgt := 29) hx hb dM_reckon_25 (by decide) (fun h7 => ?_) (fun h7 => ?_)
    · skip
      refine lv_iconst (v := 0) hx hb dM_reckon_29 (by decide) ?_
      refine lv_istore hx hb dM_reckon_30 hl (by decide) rfl (fun ls hl => ?_)
      have hl : lv_has ls 6 [(4, .int 0), (3, .int r_5), (0, .ref (b 0)), (1, .int ln), (2, .int amount)] := hl
      refine lv_ldc (v := 134217728) hx hb hown (hg _ gw_642) dM_reckon_32 ?_
      refine lv_istore hx hb dM_reckon_34 hl (by decide) rfl (fun ls hl => ?_)
      have hl : lv_has ls 6 [(5, .int 134217728), (4, .int 0), (3, .int r_5), (0, .ref (b 0)), (1, .int ln), (2, .int amount)] := hl
      have loop : ∀ (n : Nat) (jj : Int32) (most : Int32) (bit : Int32) (w3 : Int32) (w4 : Int32) (w5 : Int32) (ls : Array Slot) (H : Heap) (locs : List Loc), lok_rk σ ln amount n jj most bit = true → lf_rk σ ln amount n jj most bit = kM_reckon σ ln amount → (jj = kM_firstBehind σ ln) → lv_has ls 6 [(5, .int bit), (4, .int most), (3, .int jj), (0, .ref (b 0)), (1, .int ln), (2, .int amount)] → va_P D vwCl (lm G b (σ 0 0) (σ 0 1) (σ 0 2) w3 w4 w5 (σ 1) (σ 2) (σ 3) (σ 4) (σ 5) (σ 6) (σ 7) (σ 8) (σ 9) (σ 10) (σ 11) (σ 12) (σ 13) (σ 14) (σ 15) (σ 16) (σ 17) (σ 18) (σ 19) (σ 20) (σ 21) (σ 22)) H → va_D (va_A (mcells G b (scr σ u0)) s.heap.size) (lm G b (σ 0 0) (σ 0 1) (σ 0 2) w3 w4 w5 (σ 1) (σ 2) (σ 3) (σ 4) (σ 5) (σ 6) (σ 7) (σ 8) (σ 9) (σ 10) (σ 11) (σ 12) (σ 13) (σ 14) (σ 15) (σ 16) (σ 17) (σ 18) (σ 19) (σ 20) (σ 21) (σ 22)) → va_S (va_A (mcells G b (scr σ u0)) s.heap.size) s.heap H locs → W p l e (headSpec wgM_reckon rm_M_reckon).room s m args below meth c H locs 0 0 (MQ below (kx_v D vwCl (gt G) (mcells G b (scr σ u0)) s.heap.size (fun u => mcells G b (scr (kM_reckon σ ln amount) u))) args s 0 0 (va_A (mcells G b (scr σ u0)) s.heap.size)) (F0 m 36 ls []) := by
        intro n
        induction n with
        | zero => intro jj most bit w3 w4 w5 ls H locs hok; exact absurd hok (by unfold lok_rk; decide)
        | succ n ih =>
          intro jj most bit w3 w4 w5 ls H locs hok hk hi hl hP hD hS
          refine lv_iload hx hb dM_reckon_36 (lv_at hl 0 rfl) ?_
          refine lv_if_le (tgt := 77) hx hb dM_reckon_38 (by decide) (fun h8 => ?_) (fun h8 => ?_)
          · skip
            refine lv_aload_n hx hb dM_reckon_77 rfl (lv_at hl 3 rfl) ?_
            refine va_get (v := .ref (b 10)) hx hb hg hin_M hown hK hP 0 rfl rfl 10 (by decide) (hg _ gw_504) (fun _ h => h) rfl dM_reckon_78 ?_
            refine lv_iload_n hx hb dM_reckon_81 rfl (lv_at hl 4 rfl) ?_
            refine lv_iload hx hb dM_reckon_82 (lv_at hl 1 rfl) ?_
            refine lv_iconst (v := 1) hx hb dM_reckon_84 (by decide) ?_
            refine lv_iadd hx hb dM_reckon_85 ?_
            refine kw_iast (w' := lm G b (σ 0 0) (σ 0 1) (σ 0 2) w3 w4 w5 (σ 1) (σ 2) (σ 3) (σ 4) (σ 5) (σ 6) (σ 7) (upd (σ 8) ln.toNatClampNeg (most + 1)) (σ 9) (σ 10) (σ 11) (σ 12) (σ 13) (σ 14) (σ 15) (σ 16) (σ 17) (σ 18) (σ 19) (σ 20) (σ 21) (σ 22)) (j := ln.toNatClampNeg) hx hb hK hP hD hS 8 0 rfl rfl hln rfl dM_reckon_86 rfl (fun H locs hP hD hS => ?_)
            have hk9 : kM_reckon σ ln amount = mkM (σ 0 0) (σ 0 1) (σ 0 2) (σ 0 3) (σ 0 4) (σ 0 5) (σ 1) (σ 2) (σ 3) (σ 4) (σ 5) (σ 6) (σ 7) (upd (σ 8) ln.toNatClampNeg (most + 1)) (σ 9) (σ 10) (σ 11) (σ 12) (σ 13) (σ 14) (σ 15) (σ 16) (σ 17) (σ 18) (σ 19) (σ 20) (σ 21) (σ 22) := by rw [← hk, lf_rk, if_pos h8]
            exact kx_vret hx hb hr hlocks hK hP hD hS (u := (w3, w4, w5)) (by rw [hk9] <;> rfl) dM_reckon_87
          · skip
            refine lv_aload_n hx hb dM_reckon_41 rfl (lv_at hl 3 rfl) ?_
            refine lv_iload_n hx hb dM_reckon_42 rfl (lv_at hl 4 rfl) ?_
            refine lv_iload_n hx hb dM_reckon_43 rfl (lv_at hl 5 rfl) ?_
            refine lv_iload_n hx hb dM_reckon_44 rfl (lv_at hl 2 rfl) ?_
            refine lv_iload hx hb dM_reckon_45 (lv_at hl 1 rfl) ?_
            refine lv_iload hx hb dM_reckon_47 (lv_at hl 0 rfl) ?_
            refine lv_iadd hx hb dM_reckon_49 ?_
            refine kx_reti0 (va_runV (C := RM) (As := [.int ln, .int amount, .int jj, .int (most + bit)]) (rest := []) ⟨hx, hb, hml, hown, hg⟩ (c_M_leaves l D G b σ (w3, w4, w5) ln amount jj (most + bit) _ hln (fun k h1 h2 => hdd k (by rw [← hi]; exact h1) h2) hmo) ⟨kw_cB (n := 4) hg gw_645 gw_2 gw_643 (by decide +kernel) (by decide +kernel) ⟨Nat.le_of_ble_eq_true rfl, Nat.le_of_ble_eq_true rfl⟩ rfl rfl, hg _ gw_644, hg _ gw_750⟩ (kw_preV (q0 := 0) hK hP hD rfl rfl) rfl rfl hl.1 rfl (lv_room (Nat.le_of_ble_eq_true rfl)) dM_reckon_50 ⟨Nat.le_of_ble_eq_true rfl, Nat.le_of_ble_eq_true rfl⟩) hP hD hS (fun _ h => Or.inr h) (fun u_9 u_10 u_11 H locs hP hD hS => ?_)
            refine lv_topi (fun r_12 e_13 => ?_)
            replace e_13 := e_13.symm
            refine kw_diamond (c9 := r_12 = (0 : Int32)) (x := most) (y := most + bit) (g := fun z => F0 m 66 ls (.int z :: [])) (fun jt jf => ?_) (fun z_14 e_15 => ?_)
            · skip
              refine lv_if_eq (tgt := 64) hx hb dM_reckon_53 (by decide) (fun h16 => ?_) (fun h16 => ?_)
              · skip
                refine lv_iload hx hb dM_reckon_64 (lv_at hl 1 rfl) ?_
                exact jt h16
              · skip
                refine lv_iload hx hb dM_reckon_56 (lv_at hl 1 rfl) ?_
                refine lv_iload hx hb dM_reckon_58 (lv_at hl 0 rfl) ?_
                refine lv_iadd hx hb dM_reckon_60 ?_
                refine lv_goto (tgt := 66) hx hb dM_reckon_61 (by decide) ?_
                exact jf h16
            refine lv_istore hx hb dM_reckon_66 hl (by decide) rfl (fun ls hl => ?_)
            have hl : lv_has ls 6 [(4, .int z_14), (5, .int bit), (3, .int jj), (0, .ref (b 0)), (1, .int ln), (2, .int amount)] := hl
            refine lv_iload hx hb dM_reckon_68 (lv_at hl 1 rfl) ?_
            refine lv_iconst (v := 2) hx hb dM_reckon_70 (by decide) ?_
            refine lv_idiv hx hb dM_reckon_71 (by decide) ?_
            refine lv_istore hx hb dM_reckon_72 hl (by decide) rfl (fun ls hl => ?_)
            have hl : lv_has ls 6 [(5, .int (bit / 2)), (4, .int z_14), (3, .int jj), (0, .ref (b 0)), (1, .int ln), (2, .int amount)] := hl
            refine lv_goto (tgt := 36) hx hb dM_reckon_74 (by decide) ?_
            exact ih jj z_14 (bit / 2) (u_9 : Int32) (u_10 : Int32) (u_11 : Int32) _ _ _ (by subst e_13 e_15; rw [← hok, lok_rk, if_neg h8]) (by subst e_13 e_15; rw [← hk, lf_rk, if_neg h8]) hi (lv_sub hl [0, 1, 2, 3, 4, 5] rfl) hP hD hS
      exact loop 29 r_5 (0 : Int32) (134217728 : Int32) (u_2 : Int32) (u_3 : Int32) (u_4 : Int32) _ _ _ (lok_rk_ok σ ln amount 28 134217728 _ _ (by decide) (by decide)) (by subst e_6; unfold kM_reckon; rw [if_neg h1, if_pos h7]) e_6.symm (lv_sub hl [0, 1, 2, 3, 4, 5] rfl) hP hD hS
    · skip
      have hk9 : kM_reckon σ ln amount = σ := by subst e_6; unfold kM_reckon; rw [if_neg h1, if_neg h7]
      exact kx_vret hx hb hr hlocks hK hP hD hS (u := (u_2, u_3, u_4)) (by rw [hk9] <;> rfl) dM_reckon_28
  · skip
    refine lv_aload_n hx hb dM_reckon_4 rfl (lv_at hl 0 rfl) ?_
    refine va_get (v := .ref (b 10)) hx hb hg hin_M hown hK hP 0 rfl rfl 10 (by decide) (hg _ gw_504) (fun _ h => h) rfl dM_reckon_5 ?_
    refine lv_iload_n hx hb dM_reckon_8 rfl (lv_at hl 1 rfl) ?_
    refine lv_iconst (v := 0) hx hb dM_reckon_9 (by decide) ?_
    refine kw_iast (w' := lm G b (σ 0 0) (σ 0 1) (σ 0 2) u0.1 u0.2.1 u0.2.2 (σ 1) (σ 2) (σ 3) (σ 4) (σ 5) (σ 6) (σ 7) (upd (σ 8) ln.toNatClampNeg 0) (σ 9) (σ 10) (σ 11) (σ 12) (σ 13) (σ 14) (σ 15) (σ 16) (σ 17) (σ 18) (σ 19) (σ 20) (σ 21) (σ 22)) (j := ln.toNatClampNeg) hx hb hK hP hD hS 8 0 rfl rfl hln rfl dM_reckon_10 rfl (fun H locs hP hD hS => ?_)
    have hk9 : kM_reckon σ ln amount = mkM (σ 0 0) (σ 0 1) (σ 0 2) (σ 0 3) (σ 0 4) (σ 0 5) (σ 1) (σ 2) (σ 3) (σ 4) (σ 5) (σ 6) (σ 7) (upd (σ 8) ln.toNatClampNeg 0) (σ 9) (σ 10) (σ 11) (σ 12) (σ 13) (σ 14) (σ 15) (σ 16) (σ 17) (σ 18) (σ 19) (σ 20) (σ 21) (σ 22) := by unfold kM_reckon; rw [if_pos h1]
    exact kx_vret hx hb hr hlocks hK hP hD hS (u := (u0.1, u0.2.1, u0.2.2)) (by rw [hk9] <;> rfl) dM_reckon_11
def aM_pay_r_4 (σ : KS) (ln : Int32) (cents : Int32) : Int32 := kM_none σ ln
def aM_pay_r_7 (σ : KS) (ln : Int32) (cents : Int32) : Int32 := kM_within cents (1 : Int32) (200000000 : Int32)
def aM_pay_z_10 (σ : KS) (ln : Int32) (cents : Int32) : Int32 := if cents ≤ (σ 14 (((4 * ln) + 0).toNatClampNeg)) then cents else σ 14 (((4 * ln) + 0).toNatClampNeg)
def aM_pay_z_13 (σ : KS) (ln : Int32) (cents : Int32) : Int32 := if (cents - (aM_pay_z_10 σ ln cents)) ≤ ((upd (σ 14) (((4 * ln) + 0).toNatClampNeg) ((σ 14 (((4 * ln) + 0).toNatClampNeg)) - (aM_pay_z_10 σ ln cents))) (((4 * ln) + 1).toNatClampNeg)) then cents - (aM_pay_z_10 σ ln cents) else (upd (σ 14) (((4 * ln) + 0).toNatClampNeg) ((σ 14 (((4 * ln) + 0).toNatClampNeg)) - (aM_pay_z_10 σ ln cents))) (((4 * ln) + 1).toNatClampNeg)
def aM_pay_z_16 (σ : KS) (ln : Int32) (cents : Int32) : Int32 := if ((cents - (aM_pay_z_10 σ ln cents)) - (aM_pay_z_13 σ ln cents)) ≤ ((upd (upd (σ 14) (((4 * ln) + 0).toNatClampNeg) ((σ 14 (((4 * ln) + 0).toNatClampNeg)) - (aM_pay_z_10 σ ln cents))) (((4 * ln) + 1).toNatClampNeg) (((upd (σ 14) (((4 * ln) + 0).toNatClampNeg) ((σ 14 (((4 * ln) + 0).toNatClampNeg)) - (aM_pay_z_10 σ ln cents))) (((4 * ln) + 1).toNatClampNeg)) - (aM_pay_z_13 σ ln cents))) (((4 * ln) + 2).toNatClampNeg)) then (cents - (aM_pay_z_10 σ ln cents)) - (aM_pay_z_13 σ ln cents) else (upd (upd (σ 14) (((4 * ln) + 0).toNatClampNeg) ((σ 14 (((4 * ln) + 0).toNatClampNeg)) - (aM_pay_z_10 σ ln cents))) (((4 * ln) + 1).toNatClampNeg) (((upd (σ 14) (((4 * ln) + 0).toNatClampNeg) ((σ 14 (((4 * ln) + 0).toNatClampNeg)) - (aM_pay_z_10 σ ln cents))) (((4 * ln) + 1).toNatClampNeg)) - (aM_pay_z_13 σ ln cents))) (((4 * ln) + 2).toNatClampNeg)
def aM_pay_z_19 (σ : KS) (ln : Int32) (cents : Int32) : Int32 := if (((cents - (aM_pay_z_10 σ ln cents)) - (aM_pay_z_13 σ ln cents)) - (aM_pay_z_16 σ ln cents)) ≤ ((upd (upd (upd (σ 14) (((4 * ln) + 0).toNatClampNeg) ((σ 14 (((4 * ln) + 0).toNatClampNeg)) - (aM_pay_z_10 σ ln cents))) (((4 * ln) + 1).toNatClampNeg) (((upd (σ 14) (((4 * ln) + 0).toNatClampNeg) ((σ 14 (((4 * ln) + 0).toNatClampNeg)) - (aM_pay_z_10 σ ln cents))) (((4 * ln) + 1).toNatClampNeg)) - (aM_pay_z_13 σ ln cents))) (((4 * ln) + 2).toNatClampNeg) (((upd (upd (σ 14) (((4 * ln) + 0).toNatClampNeg) ((σ 14 (((4 * ln) + 0).toNatClampNeg)) - (aM_pay_z_10 σ ln cents))) (((4 * ln) + 1).toNatClampNeg) (((upd (σ 14) (((4 * ln) + 0).toNatClampNeg) ((σ 14 (((4 * ln) + 0).toNatClampNeg)) - (aM_pay_z_10 σ ln cents))) (((4 * ln) + 1).toNatClampNeg)) - (aM_pay_z_13 σ ln cents))) (((4 * ln) + 2).toNatClampNeg)) - (aM_pay_z_16 σ ln cents))) (((4 * ln) + 3).toNatClampNeg)) then ((cents - (aM_pay_z_10 σ ln cents)) - (aM_pay_z_13 σ ln cents)) - (aM_pay_z_16 σ ln cents) else (upd (upd (upd (σ 14) (((4 * ln) + 0).toNatClampNeg) ((σ 14 (((4 * ln) + 0).toNatClampNeg)) - (aM_pay_z_10 σ ln cents))) (((4 * ln) + 1).toNatClampNeg) (((upd (σ 14) (((4 * ln) + 0).toNatClampNeg) ((σ 14 (((4 * ln) + 0).toNatClampNeg)) - (aM_pay_z_10 σ ln cents))) (((4 * ln) + 1).toNatClampNeg)) - (aM_pay_z_13 σ ln cents))) (((4 * ln) + 2).toNatClampNeg) (((upd (upd (σ 14) (((4 * ln) + 0).toNatClampNeg) ((σ 14 (((4 * ln) + 0).toNatClampNeg)) - (aM_pay_z_10 σ ln cents))) (((4 * ln) + 1).toNatClampNeg) (((upd (σ 14) (((4 * ln) + 0).toNatClampNeg) ((σ 14 (((4 * ln) + 0).toNatClampNeg)) - (aM_pay_z_10 σ ln cents))) (((4 * ln) + 1).toNatClampNeg)) - (aM_pay_z_13 σ ln cents))) (((4 * ln) + 2).toNatClampNeg)) - (aM_pay_z_16 σ ln cents))) (((4 * ln) + 3).toNatClampNeg)
def aM_pay_z_22 (σ : KS) (ln : Int32) (cents : Int32) : Int32 := if ((σ 7 ln.toNatClampNeg) - ((upd (upd (upd (upd (σ 16) (((6 * ln) + 0).toNatClampNeg) (aM_pay_z_10 σ ln cents)) (((6 * ln) + 1).toNatClampNeg) (aM_pay_z_13 σ ln cents)) (((6 * ln) + 2).toNatClampNeg) (aM_pay_z_16 σ ln cents)) (((6 * ln) + 3).toNatClampNeg) (aM_pay_z_19 σ ln cents)) (((6 * ln) + 2).toNatClampNeg))) ≤ ((((cents - (aM_pay_z_10 σ ln cents)) - (aM_pay_z_13 σ ln cents)) - (aM_pay_z_16 σ ln cents)) - (aM_pay_z_19 σ ln cents)) then (σ 7 ln.toNatClampNeg) - ((upd (upd (upd (upd (σ 16) (((6 * ln) + 0).toNatClampNeg) (aM_pay_z_10 σ ln cents)) (((6 * ln) + 1).toNatClampNeg) (aM_pay_z_13 σ ln cents)) (((6 * ln) + 2).toNatClampNeg) (aM_pay_z_16 σ ln cents)) (((6 * ln) + 3).toNatClampNeg) (aM_pay_z_19 σ ln cents)) (((6 * ln) + 2).toNatClampNeg)) else (((cents - (aM_pay_z_10 σ ln cents)) - (aM_pay_z_13 σ ln cents)) - (aM_pay_z_16 σ ln cents)) - (aM_pay_z_19 σ ln cents)
def aM_pay_S_31 (σ : KS) (ln : Int32) (cents : Int32) : KS := (kM_reckon (mkM 0 (σ 0 1) (σ 0 2) (σ 0 3) (σ 0 4) (σ 0 5) (σ 1) (σ 2) (σ 3) (σ 4) (σ 5) (σ 6) (upd (σ 7) ln.toNatClampNeg (((σ 7 ln.toNatClampNeg) - ((upd (upd (upd (upd (σ 16) (((6 * ln) + 0).toNatClampNeg) (aM_pay_z_10 σ ln cents)) (((6 * ln) + 1).toNatClampNeg) (aM_pay_z_13 σ ln cents)) (((6 * ln) + 2).toNatClampNeg) (aM_pay_z_16 σ ln cents)) (((6 * ln) + 3).toNatClampNeg) (aM_pay_z_19 σ ln cents)) (((6 * ln) + 2).toNatClampNeg))) - (aM_pay_z_22 σ ln cents))) (σ 8) (σ 9) (σ 10) (upd (σ 11) ln.toNatClampNeg ((σ 11 ln.toNatClampNeg) + ((upd (upd (upd (upd (upd (upd (σ 16) (((6 * ln) + 0).toNatClampNeg) (aM_pay_z_10 σ ln cents)) (((6 * ln) + 1).toNatClampNeg) (aM_pay_z_13 σ ln cents)) (((6 * ln) + 2).toNatClampNeg) (aM_pay_z_16 σ ln cents)) (((6 * ln) + 3).toNatClampNeg) (aM_pay_z_19 σ ln cents)) (((6 * ln) + 4).toNatClampNeg) (aM_pay_z_22 σ ln cents)) (((6 * ln) + 5).toNatClampNeg) (((((cents - (aM_pay_z_10 σ ln cents)) - (aM_pay_z_13 σ ln cents)) - (aM_pay_z_16 σ ln cents)) - (aM_pay_z_19 σ ln cents)) - (aM_pay_z_22 σ ln cents))) (((6 * ln) + 3).toNatClampNeg)))) (σ 12) (σ 13) (upd (upd (upd (upd (σ 14) (((4 * ln) + 0).toNatClampNeg) ((σ 14 (((4 * ln) + 0).toNatClampNeg)) - (aM_pay_z_10 σ ln cents))) (((4 * ln) + 1).toNatClampNeg) (((upd (σ 14) (((4 * ln) + 0).toNatClampNeg) ((σ 14 (((4 * ln) + 0).toNatClampNeg)) - (aM_pay_z_10 σ ln cents))) (((4 * ln) + 1).toNatClampNeg)) - (aM_pay_z_13 σ ln cents))) (((4 * ln) + 2).toNatClampNeg) (((upd (upd (σ 14) (((4 * ln) + 0).toNatClampNeg) ((σ 14 (((4 * ln) + 0).toNatClampNeg)) - (aM_pay_z_10 σ ln cents))) (((4 * ln) + 1).toNatClampNeg) (((upd (σ 14) (((4 * ln) + 0).toNatClampNeg) ((σ 14 (((4 * ln) + 0).toNatClampNeg)) - (aM_pay_z_10 σ ln cents))) (((4 * ln) + 1).toNatClampNeg)) - (aM_pay_z_13 σ ln cents))) (((4 * ln) + 2).toNatClampNeg)) - (aM_pay_z_16 σ ln cents))) (((4 * ln) + 3).toNatClampNeg) (((upd (upd (upd (σ 14) (((4 * ln) + 0).toNatClampNeg) ((σ 14 (((4 * ln) + 0).toNatClampNeg)) - (aM_pay_z_10 σ ln cents))) (((4 * ln) + 1).toNatClampNeg) (((upd (σ 14) (((4 * ln) + 0).toNatClampNeg) ((σ 14 (((4 * ln) + 0).toNatClampNeg)) - (aM_pay_z_10 σ ln cents))) (((4 * ln) + 1).toNatClampNeg)) - (aM_pay_z_13 σ ln cents))) (((4 * ln) + 2).toNatClampNeg) (((upd (upd (σ 14) (((4 * ln) + 0).toNatClampNeg) ((σ 14 (((4 * ln) + 0).toNatClampNeg)) - (aM_pay_z_10 σ ln cents))) (((4 * ln) + 1).toNatClampNeg) (((upd (σ 14) (((4 * ln) + 0).toNatClampNeg) ((σ 14 (((4 * ln) + 0).toNatClampNeg)) - (aM_pay_z_10 σ ln cents))) (((4 * ln) + 1).toNatClampNeg)) - (aM_pay_z_13 σ ln cents))) (((4 * ln) + 2).toNatClampNeg)) - (aM_pay_z_16 σ ln cents))) (((4 * ln) + 3).toNatClampNeg)) - (aM_pay_z_19 σ ln cents))) (upd (σ 15) ln.toNatClampNeg 1) (upd (upd (upd (upd (upd (upd (σ 16) (((6 * ln) + 0).toNatClampNeg) (aM_pay_z_10 σ ln cents)) (((6 * ln) + 1).toNatClampNeg) (aM_pay_z_13 σ ln cents)) (((6 * ln) + 2).toNatClampNeg) (aM_pay_z_16 σ ln cents)) (((6 * ln) + 3).toNatClampNeg) (aM_pay_z_19 σ ln cents)) (((6 * ln) + 4).toNatClampNeg) (aM_pay_z_22 σ ln cents)) (((6 * ln) + 5).toNatClampNeg) (((((cents - (aM_pay_z_10 σ ln cents)) - (aM_pay_z_13 σ ln cents)) - (aM_pay_z_16 σ ln cents)) - (aM_pay_z_19 σ ln cents)) - (aM_pay_z_22 σ ln cents))) (σ 17) (σ 18) (σ 19) (σ 20) (σ 21) (σ 22)) ln (((upd (σ 7) ln.toNatClampNeg (((σ 7 ln.toNatClampNeg) - ((upd (upd (upd (upd (σ 16) (((6 * ln) + 0).toNatClampNeg) (aM_pay_z_10 σ ln cents)) (((6 * ln) + 1).toNatClampNeg) (aM_pay_z_13 σ ln cents)) (((6 * ln) + 2).toNatClampNeg) (aM_pay_z_16 σ ln cents)) (((6 * ln) + 3).toNatClampNeg) (aM_pay_z_19 σ ln cents)) (((6 * ln) + 2).toNatClampNeg))) - (aM_pay_z_22 σ ln cents))) ln.toNatClampNeg) - ((upd (upd (upd (upd (σ 14) (((4 * ln) + 0).toNatClampNeg) ((σ 14 (((4 * ln) + 0).toNatClampNeg)) - (aM_pay_z_10 σ ln cents))) (((4 * ln) + 1).toNatClampNeg) (((upd (σ 14) (((4 * ln) + 0).toNatClampNeg) ((σ 14 (((4 * ln) + 0).toNatClampNeg)) - (aM_pay_z_10 σ ln cents))) (((4 * ln) + 1).toNatClampNeg)) - (aM_pay_z_13 σ ln cents))) (((4 * ln) + 2).toNatClampNeg) (((upd (upd (σ 14) (((4 * ln) + 0).toNatClampNeg) ((σ 14 (((4 * ln) + 0).toNatClampNeg)) - (aM_pay_z_10 σ ln cents))) (((4 * ln) + 1).toNatClampNeg) (((upd (σ 14) (((4 * ln) + 0).toNatClampNeg) ((σ 14 (((4 * ln) + 0).toNatClampNeg)) - (aM_pay_z_10 σ ln cents))) (((4 * ln) + 1).toNatClampNeg)) - (aM_pay_z_13 σ ln cents))) (((4 * ln) + 2).toNatClampNeg)) - (aM_pay_z_16 σ ln cents))) (((4 * ln) + 3).toNatClampNeg) (((upd (upd (upd (σ 14) (((4 * ln) + 0).toNatClampNeg) ((σ 14 (((4 * ln) + 0).toNatClampNeg)) - (aM_pay_z_10 σ ln cents))) (((4 * ln) + 1).toNatClampNeg) (((upd (σ 14) (((4 * ln) + 0).toNatClampNeg) ((σ 14 (((4 * ln) + 0).toNatClampNeg)) - (aM_pay_z_10 σ ln cents))) (((4 * ln) + 1).toNatClampNeg)) - (aM_pay_z_13 σ ln cents))) (((4 * ln) + 2).toNatClampNeg) (((upd (upd (σ 14) (((4 * ln) + 0).toNatClampNeg) ((σ 14 (((4 * ln) + 0).toNatClampNeg)) - (aM_pay_z_10 σ ln cents))) (((4 * ln) + 1).toNatClampNeg) (((upd (σ 14) (((4 * ln) + 0).toNatClampNeg) ((σ 14 (((4 * ln) + 0).toNatClampNeg)) - (aM_pay_z_10 σ ln cents))) (((4 * ln) + 1).toNatClampNeg)) - (aM_pay_z_13 σ ln cents))) (((4 * ln) + 2).toNatClampNeg)) - (aM_pay_z_16 σ ln cents))) (((4 * ln) + 3).toNatClampNeg)) - (aM_pay_z_19 σ ln cents))) (((4 * ln) + 2).toNatClampNeg))))
def aM_pay_S_36 (σ : KS) (ln : Int32) (cents : Int32) : KS := (kM_accrue (mkM 0 (σ 0 1) (σ 0 2) (σ 0 3) (σ 0 4) (σ 0 5) (σ 1) (σ 2) (σ 3) (σ 4) (σ 5) (σ 6) (σ 7) (σ 8) (σ 9) (σ 10) (σ 11) (σ 12) (σ 13) (upd (upd (upd (upd (σ 14) (((4 * ln) + 0).toNatClampNeg) ((σ 14 (((4 * ln) + 0).toNatClampNeg)) - (aM_pay_z_10 σ ln cents))) (((4 * ln) + 1).toNatClampNeg) (((upd (σ 14) (((4 * ln) + 0).toNatClampNeg) ((σ 14 (((4 * ln) + 0).toNatClampNeg)) - (aM_pay_z_10 σ ln cents))) (((4 * ln) + 1).toNatClampNeg)) - (aM_pay_z_13 σ ln cents))) (((4 * ln) + 2).toNatClampNeg) (((upd (upd (σ 14) (((4 * ln) + 0).toNatClampNeg) ((σ 14 (((4 * ln) + 0).toNatClampNeg)) - (aM_pay_z_10 σ ln cents))) (((4 * ln) + 1).toNatClampNeg) (((upd (σ 14) (((4 * ln) + 0).toNatClampNeg) ((σ 14 (((4 * ln) + 0).toNatClampNeg)) - (aM_pay_z_10 σ ln cents))) (((4 * ln) + 1).toNatClampNeg)) - (aM_pay_z_13 σ ln cents))) (((4 * ln) + 2).toNatClampNeg)) - (aM_pay_z_16 σ ln cents))) (((4 * ln) + 3).toNatClampNeg) (((upd (upd (upd (σ 14) (((4 * ln) + 0).toNatClampNeg) ((σ 14 (((4 * ln) + 0).toNatClampNeg)) - (aM_pay_z_10 σ ln cents))) (((4 * ln) + 1).toNatClampNeg) (((upd (σ 14) (((4 * ln) + 0).toNatClampNeg) ((σ 14 (((4 * ln) + 0).toNatClampNeg)) - (aM_pay_z_10 σ ln cents))) (((4 * ln) + 1).toNatClampNeg)) - (aM_pay_z_13 σ ln cents))) (((4 * ln) + 2).toNatClampNeg) (((upd (upd (σ 14) (((4 * ln) + 0).toNatClampNeg) ((σ 14 (((4 * ln) + 0).toNatClampNeg)) - (aM_pay_z_10 σ ln cents))) (((4 * ln) + 1).toNatClampNeg) (((upd (σ 14) (((4 * ln) + 0).toNatClampNeg) ((σ 14 (((4 * ln) + 0).toNatClampNeg)) - (aM_pay_z_10 σ ln cents))) (((4 * ln) + 1).toNatClampNeg)) - (aM_pay_z_13 σ ln cents))) (((4 * ln) + 2).toNatClampNeg)) - (aM_pay_z_16 σ ln cents))) (((4 * ln) + 3).toNatClampNeg)) - (aM_pay_z_19 σ ln cents))) (upd (σ 15) ln.toNatClampNeg 1) (upd (upd (upd (upd (upd (upd (σ 16) (((6 * ln) + 0).toNatClampNeg) (aM_pay_z_10 σ ln cents)) (((6 * ln) + 1).toNatClampNeg) (aM_pay_z_13 σ ln cents)) (((6 * ln) + 2).toNatClampNeg) (aM_pay_z_16 σ ln cents)) (((6 * ln) + 3).toNatClampNeg) (aM_pay_z_19 σ ln cents)) (((6 * ln) + 4).toNatClampNeg) (aM_pay_z_22 σ ln cents)) (((6 * ln) + 5).toNatClampNeg) (((((cents - (aM_pay_z_10 σ ln cents)) - (aM_pay_z_13 σ ln cents)) - (aM_pay_z_16 σ ln cents)) - (aM_pay_z_19 σ ln cents)) - (aM_pay_z_22 σ ln cents))) (σ 17) (σ 18) (σ 19) (σ 20) (σ 21) (σ 22)) ln)
def aM_pay_S_43 (σ : KS) (ln : Int32) (cents : Int32) : KS := (kM_reckon (mkM ((aM_pay_S_36 σ ln cents) 0 0) ((aM_pay_S_36 σ ln cents) 0 1) ((aM_pay_S_36 σ ln cents) 0 2) ((aM_pay_S_36 σ ln cents) 0 3) ((aM_pay_S_36 σ ln cents) 0 4) ((aM_pay_S_36 σ ln cents) 0 5) ((aM_pay_S_36 σ ln cents) 1) ((aM_pay_S_36 σ ln cents) 2) ((aM_pay_S_36 σ ln cents) 3) ((aM_pay_S_36 σ ln cents) 4) ((aM_pay_S_36 σ ln cents) 5) ((aM_pay_S_36 σ ln cents) 6) (upd ((aM_pay_S_36 σ ln cents) 7) ln.toNatClampNeg (((σ 7 ln.toNatClampNeg) - ((upd (upd (upd (upd (σ 16) (((6 * ln) + 0).toNatClampNeg) (aM_pay_z_10 σ ln cents)) (((6 * ln) + 1).toNatClampNeg) (aM_pay_z_13 σ ln cents)) (((6 * ln) + 2).toNatClampNeg) (aM_pay_z_16 σ ln cents)) (((6 * ln) + 3).toNatClampNeg) (aM_pay_z_19 σ ln cents)) (((6 * ln) + 2).toNatClampNeg))) - (aM_pay_z_22 σ ln cents))) ((aM_pay_S_36 σ ln cents) 8) ((aM_pay_S_36 σ ln cents) 9) ((aM_pay_S_36 σ ln cents) 10) (upd ((aM_pay_S_36 σ ln cents) 11) ln.toNatClampNeg (((aM_pay_S_36 σ ln cents) 11 ln.toNatClampNeg) + ((aM_pay_S_36 σ ln cents) 16 (((6 * ln) + 3).toNatClampNeg)))) ((aM_pay_S_36 σ ln cents) 12) ((aM_pay_S_36 σ ln cents) 13) ((aM_pay_S_36 σ ln cents) 14) ((aM_pay_S_36 σ ln cents) 15) ((aM_pay_S_36 σ ln cents) 16) ((aM_pay_S_36 σ ln cents) 17) ((aM_pay_S_36 σ ln cents) 18) ((aM_pay_S_36 σ ln cents) 19) ((aM_pay_S_36 σ ln cents) 20) ((aM_pay_S_36 σ ln cents) 21) ((aM_pay_S_36 σ ln cents) 22)) ln (((upd ((aM_pay_S_36 σ ln cents) 7) ln.toNatClampNeg (((σ 7 ln.toNatClampNeg) - ((upd (upd (upd (upd (σ 16) (((6 * ln) + 0).toNatClampNeg) (aM_pay_z_10 σ ln cents)) (((6 * ln) + 1).toNatClampNeg) (aM_pay_z_13 σ ln cents)) (((6 * ln) + 2).toNatClampNeg) (aM_pay_z_16 σ ln cents)) (((6 * ln) + 3).toNatClampNeg) (aM_pay_z_19 σ ln cents)) (((6 * ln) + 2).toNatClampNeg))) - (aM_pay_z_22 σ ln cents))) ln.toNatClampNeg) - ((aM_pay_S_36 σ ln cents) 14 (((4 * ln) + 2).toNatClampNeg))))
def kM_pay (σ : KS) (ln : Int32) (cents : Int32) : Int32 × KS := if (aM_pay_r_4 σ ln cents) = (0 : Int32) then (if (aM_pay_r_7 σ ln cents) = (0 : Int32) then (0, mkM 2 (σ 0 1) (σ 0 2) (σ 0 3) (σ 0 4) (σ 0 5) (σ 1) (σ 2) (σ 3) (σ 4) (σ 5) (σ 6) (σ 7) (σ 8) (σ 9) (σ 10) (σ 11) (σ 12) (σ 13) (σ 14) (σ 15) (σ 16) (σ 17) (σ 18) (σ 19) (σ 20) (σ 21) (σ 22)) else (if ((aM_pay_z_22 σ ln cents) + ((upd (upd (upd (upd (upd (upd (σ 16) (((6 * ln) + 0).toNatClampNeg) (aM_pay_z_10 σ ln cents)) (((6 * ln) + 1).toNatClampNeg) (aM_pay_z_13 σ ln cents)) (((6 * ln) + 2).toNatClampNeg) (aM_pay_z_16 σ ln cents)) (((6 * ln) + 3).toNatClampNeg) (aM_pay_z_19 σ ln cents)) (((6 * ln) + 4).toNatClampNeg) (aM_pay_z_22 σ ln cents)) (((6 * ln) + 5).toNatClampNeg) (((((cents - (aM_pay_z_10 σ ln cents)) - (aM_pay_z_13 σ ln cents)) - (aM_pay_z_16 σ ln cents)) - (aM_pay_z_19 σ ln cents)) - (aM_pay_z_22 σ ln cents))) (((6 * ln) + 2).toNatClampNeg))) ≤ (0 : Int32) then (if (aM_pay_z_22 σ ln cents) ≤ (0 : Int32) then (((((cents - (aM_pay_z_10 σ ln cents)) - (aM_pay_z_13 σ ln cents)) - (aM_pay_z_16 σ ln cents)) - (aM_pay_z_19 σ ln cents)) - (aM_pay_z_22 σ ln cents), mkM 0 (σ 0 1) (σ 0 2) (σ 0 3) (σ 0 4) (σ 0 5) (σ 1) (σ 2) (σ 3) (σ 4) (σ 5) (σ 6) (upd (σ 7) ln.toNatClampNeg (((σ 7 ln.toNatClampNeg) - ((upd (upd (upd (upd (σ 16) (((6 * ln) + 0).toNatClampNeg) (aM_pay_z_10 σ ln cents)) (((6 * ln) + 1).toNatClampNeg) (aM_pay_z_13 σ ln cents)) (((6 * ln) + 2).toNatClampNeg) (aM_pay_z_16 σ ln cents)) (((6 * ln) + 3).toNatClampNeg) (aM_pay_z_19 σ ln cents)) (((6 * ln) + 2).toNatClampNeg))) - (aM_pay_z_22 σ ln cents))) (σ 8) (σ 9) (σ 10) (upd (σ 11) ln.toNatClampNeg ((σ 11 ln.toNatClampNeg) + ((upd (upd (upd (upd (upd (upd (σ 16) (((6 * ln) + 0).toNatClampNeg) (aM_pay_z_10 σ ln cents)) (((6 * ln) + 1).toNatClampNeg) (aM_pay_z_13 σ ln cents)) (((6 * ln) + 2).toNatClampNeg) (aM_pay_z_16 σ ln cents)) (((6 * ln) + 3).toNatClampNeg) (aM_pay_z_19 σ ln cents)) (((6 * ln) + 4).toNatClampNeg) (aM_pay_z_22 σ ln cents)) (((6 * ln) + 5).toNatClampNeg) (((((cents - (aM_pay_z_10 σ ln cents)) - (aM_pay_z_13 σ ln cents)) - (aM_pay_z_16 σ ln cents)) - (aM_pay_z_19 σ ln cents)) - (aM_pay_z_22 σ ln cents))) (((6 * ln) + 3).toNatClampNeg)))) (σ 12) (σ 13) (upd (upd (upd (upd (σ 14) (((4 * ln) + 0).toNatClampNeg) ((σ 14 (((4 * ln) + 0).toNatClampNeg)) - (aM_pay_z_10 σ ln cents))) (((4 * ln) + 1).toNatClampNeg) (((upd (σ 14) (((4 * ln) + 0).toNatClampNeg) ((σ 14 (((4 * ln) + 0).toNatClampNeg)) - (aM_pay_z_10 σ ln cents))) (((4 * ln) + 1).toNatClampNeg)) - (aM_pay_z_13 σ ln cents))) (((4 * ln) + 2).toNatClampNeg) (((upd (upd (σ 14) (((4 * ln) + 0).toNatClampNeg) ((σ 14 (((4 * ln) + 0).toNatClampNeg)) - (aM_pay_z_10 σ ln cents))) (((4 * ln) + 1).toNatClampNeg) (((upd (σ 14) (((4 * ln) + 0).toNatClampNeg) ((σ 14 (((4 * ln) + 0).toNatClampNeg)) - (aM_pay_z_10 σ ln cents))) (((4 * ln) + 1).toNatClampNeg)) - (aM_pay_z_13 σ ln cents))) (((4 * ln) + 2).toNatClampNeg)) - (aM_pay_z_16 σ ln cents))) (((4 * ln) + 3).toNatClampNeg) (((upd (upd (upd (σ 14) (((4 * ln) + 0).toNatClampNeg) ((σ 14 (((4 * ln) + 0).toNatClampNeg)) - (aM_pay_z_10 σ ln cents))) (((4 * ln) + 1).toNatClampNeg) (((upd (σ 14) (((4 * ln) + 0).toNatClampNeg) ((σ 14 (((4 * ln) + 0).toNatClampNeg)) - (aM_pay_z_10 σ ln cents))) (((4 * ln) + 1).toNatClampNeg)) - (aM_pay_z_13 σ ln cents))) (((4 * ln) + 2).toNatClampNeg) (((upd (upd (σ 14) (((4 * ln) + 0).toNatClampNeg) ((σ 14 (((4 * ln) + 0).toNatClampNeg)) - (aM_pay_z_10 σ ln cents))) (((4 * ln) + 1).toNatClampNeg) (((upd (σ 14) (((4 * ln) + 0).toNatClampNeg) ((σ 14 (((4 * ln) + 0).toNatClampNeg)) - (aM_pay_z_10 σ ln cents))) (((4 * ln) + 1).toNatClampNeg)) - (aM_pay_z_13 σ ln cents))) (((4 * ln) + 2).toNatClampNeg)) - (aM_pay_z_16 σ ln cents))) (((4 * ln) + 3).toNatClampNeg)) - (aM_pay_z_19 σ ln cents))) (upd (σ 15) ln.toNatClampNeg 1) (upd (upd (upd (upd (upd (upd (σ 16) (((6 * ln) + 0).toNatClampNeg) (aM_pay_z_10 σ ln cents)) (((6 * ln) + 1).toNatClampNeg) (aM_pay_z_13 σ ln cents)) (((6 * ln) + 2).toNatClampNeg) (aM_pay_z_16 σ ln cents)) (((6 * ln) + 3).toNatClampNeg) (aM_pay_z_19 σ ln cents)) (((6 * ln) + 4).toNatClampNeg) (aM_pay_z_22 σ ln cents)) (((6 * ln) + 5).toNatClampNeg) (((((cents - (aM_pay_z_10 σ ln cents)) - (aM_pay_z_13 σ ln cents)) - (aM_pay_z_16 σ ln cents)) - (aM_pay_z_19 σ ln cents)) - (aM_pay_z_22 σ ln cents))) (σ 17) (σ 18) (σ 19) (σ 20) (σ 21) (σ 22)) else (if (σ 6 ln.toNatClampNeg) = (0 : Int32) then (((((cents - (aM_pay_z_10 σ ln cents)) - (aM_pay_z_13 σ ln cents)) - (aM_pay_z_16 σ ln cents)) - (aM_pay_z_19 σ ln cents)) - (aM_pay_z_22 σ ln cents), (aM_pay_S_31 σ ln cents)) else (((((cents - (aM_pay_z_10 σ ln cents)) - (aM_pay_z_13 σ ln cents)) - (aM_pay_z_16 σ ln cents)) - (aM_pay_z_19 σ ln cents)) - (aM_pay_z_22 σ ln cents), mkM 0 (σ 0 1) (σ 0 2) (σ 0 3) (σ 0 4) (σ 0 5) (σ 1) (σ 2) (σ 3) (σ 4) (σ 5) (σ 6) (upd (σ 7) ln.toNatClampNeg (((σ 7 ln.toNatClampNeg) - ((upd (upd (upd (upd (σ 16) (((6 * ln) + 0).toNatClampNeg) (aM_pay_z_10 σ ln cents)) (((6 * ln) + 1).toNatClampNeg) (aM_pay_z_13 σ ln cents)) (((6 * ln) + 2).toNatClampNeg) (aM_pay_z_16 σ ln cents)) (((6 * ln) + 3).toNatClampNeg) (aM_pay_z_19 σ ln cents)) (((6 * ln) + 2).toNatClampNeg))) - (aM_pay_z_22 σ ln cents))) (σ 8) (σ 9) (σ 10) (upd (σ 11) ln.toNatClampNeg ((σ 11 ln.toNatClampNeg) + ((upd (upd (upd (upd (upd (upd (σ 16) (((6 * ln) + 0).toNatClampNeg) (aM_pay_z_10 σ ln cents)) (((6 * ln) + 1).toNatClampNeg) (aM_pay_z_13 σ ln cents)) (((6 * ln) + 2).toNatClampNeg) (aM_pay_z_16 σ ln cents)) (((6 * ln) + 3).toNatClampNeg) (aM_pay_z_19 σ ln cents)) (((6 * ln) + 4).toNatClampNeg) (aM_pay_z_22 σ ln cents)) (((6 * ln) + 5).toNatClampNeg) (((((cents - (aM_pay_z_10 σ ln cents)) - (aM_pay_z_13 σ ln cents)) - (aM_pay_z_16 σ ln cents)) - (aM_pay_z_19 σ ln cents)) - (aM_pay_z_22 σ ln cents))) (((6 * ln) + 3).toNatClampNeg)))) (σ 12) (σ 13) (upd (upd (upd (upd (σ 14) (((4 * ln) + 0).toNatClampNeg) ((σ 14 (((4 * ln) + 0).toNatClampNeg)) - (aM_pay_z_10 σ ln cents))) (((4 * ln) + 1).toNatClampNeg) (((upd (σ 14) (((4 * ln) + 0).toNatClampNeg) ((σ 14 (((4 * ln) + 0).toNatClampNeg)) - (aM_pay_z_10 σ ln cents))) (((4 * ln) + 1).toNatClampNeg)) - (aM_pay_z_13 σ ln cents))) (((4 * ln) + 2).toNatClampNeg) (((upd (upd (σ 14) (((4 * ln) + 0).toNatClampNeg) ((σ 14 (((4 * ln) + 0).toNatClampNeg)) - (aM_pay_z_10 σ ln cents))) (((4 * ln) + 1).toNatClampNeg) (((upd (σ 14) (((4 * ln) + 0).toNatClampNeg) ((σ 14 (((4 * ln) + 0).toNatClampNeg)) - (aM_pay_z_10 σ ln cents))) (((4 * ln) + 1).toNatClampNeg)) - (aM_pay_z_13 σ ln cents))) (((4 * ln) + 2).toNatClampNeg)) - (aM_pay_z_16 σ ln cents))) (((4 * ln) + 3).toNatClampNeg) (((upd (upd (upd (σ 14) (((4 * ln) + 0).toNatClampNeg) ((σ 14 (((4 * ln) + 0).toNatClampNeg)) - (aM_pay_z_10 σ ln cents))) (((4 * ln) + 1).toNatClampNeg) (((upd (σ 14) (((4 * ln) + 0).toNatClampNeg) ((σ 14 (((4 * ln) + 0).toNatClampNeg)) - (aM_pay_z_10 σ ln cents))) (((4 * ln) + 1).toNatClampNeg)) - (aM_pay_z_13 σ ln cents))) (((4 * ln) + 2).toNatClampNeg) (((upd (upd (σ 14) (((4 * ln) + 0).toNatClampNeg) ((σ 14 (((4 * ln) + 0).toNatClampNeg)) - (aM_pay_z_10 σ ln cents))) (((4 * ln) + 1).toNatClampNeg) (((upd (σ 14) (((4 * ln) + 0).toNatClampNeg) ((σ 14 (((4 * ln) + 0).toNatClampNeg)) - (aM_pay_z_10 σ ln cents))) (((4 * ln) + 1).toNatClampNeg)) - (aM_pay_z_13 σ ln cents))) (((4 * ln) + 2).toNatClampNeg)) - (aM_pay_z_16 σ ln cents))) (((4 * ln) + 3).toNatClampNeg)) - (aM_pay_z_19 σ ln cents))) (upd (σ 15) ln.toNatClampNeg 1) (upd (upd (upd (upd (upd (upd (σ 16) (((6 * ln) + 0).toNatClampNeg) (aM_pay_z_10 σ ln cents)) (((6 * ln) + 1).toNatClampNeg) (aM_pay_z_13 σ ln cents)) (((6 * ln) + 2).toNatClampNeg) (aM_pay_z_16 σ ln cents)) (((6 * ln) + 3).toNatClampNeg) (aM_pay_z_19 σ ln cents)) (((6 * ln) + 4).toNatClampNeg) (aM_pay_z_22 σ ln cents)) (((6 * ln) + 5).toNatClampNeg) (((((cents - (aM_pay_z_10 σ ln cents)) - (aM_pay_z_13 σ ln cents)) - (aM_pay_z_16 σ ln cents)) - (aM_pay_z_19 σ ln cents)) - (aM_pay_z_22 σ ln cents))) (σ 17) (σ 18) (σ 19) (σ 20) (σ 21) (σ 22)))) else (if (aM_pay_z_22 σ ln cents) ≤ (0 : Int32) then (((((cents - (aM_pay_z_10 σ ln cents)) - (aM_pay_z_13 σ ln cents)) - (aM_pay_z_16 σ ln cents)) - (aM_pay_z_19 σ ln cents)) - (aM_pay_z_22 σ ln cents), mkM ((aM_pay_S_36 σ ln cents) 0 0) ((aM_pay_S_36 σ ln cents) 0 1) ((aM_pay_S_36 σ ln cents) 0 2) ((aM_pay_S_36 σ ln cents) 0 3) ((aM_pay_S_36 σ ln cents) 0 4) ((aM_pay_S_36 σ ln cents) 0 5) ((aM_pay_S_36 σ ln cents) 1) ((aM_pay_S_36 σ ln cents) 2) ((aM_pay_S_36 σ ln cents) 3) ((aM_pay_S_36 σ ln cents) 4) ((aM_pay_S_36 σ ln cents) 5) ((aM_pay_S_36 σ ln cents) 6) (upd ((aM_pay_S_36 σ ln cents) 7) ln.toNatClampNeg (((σ 7 ln.toNatClampNeg) - ((upd (upd (upd (upd (σ 16) (((6 * ln) + 0).toNatClampNeg) (aM_pay_z_10 σ ln cents)) (((6 * ln) + 1).toNatClampNeg) (aM_pay_z_13 σ ln cents)) (((6 * ln) + 2).toNatClampNeg) (aM_pay_z_16 σ ln cents)) (((6 * ln) + 3).toNatClampNeg) (aM_pay_z_19 σ ln cents)) (((6 * ln) + 2).toNatClampNeg))) - (aM_pay_z_22 σ ln cents))) ((aM_pay_S_36 σ ln cents) 8) ((aM_pay_S_36 σ ln cents) 9) ((aM_pay_S_36 σ ln cents) 10) (upd ((aM_pay_S_36 σ ln cents) 11) ln.toNatClampNeg (((aM_pay_S_36 σ ln cents) 11 ln.toNatClampNeg) + ((aM_pay_S_36 σ ln cents) 16 (((6 * ln) + 3).toNatClampNeg)))) ((aM_pay_S_36 σ ln cents) 12) ((aM_pay_S_36 σ ln cents) 13) ((aM_pay_S_36 σ ln cents) 14) ((aM_pay_S_36 σ ln cents) 15) ((aM_pay_S_36 σ ln cents) 16) ((aM_pay_S_36 σ ln cents) 17) ((aM_pay_S_36 σ ln cents) 18) ((aM_pay_S_36 σ ln cents) 19) ((aM_pay_S_36 σ ln cents) 20) ((aM_pay_S_36 σ ln cents) 21) ((aM_pay_S_36 σ ln cents) 22)) else (if ((aM_pay_S_36 σ ln cents) 6 ln.toNatClampNeg) = (0 : Int32) then (((((cents - (aM_pay_z_10 σ ln cents)) - (aM_pay_z_13 σ ln cents)) - (aM_pay_z_16 σ ln cents)) - (aM_pay_z_19 σ ln cents)) - (aM_pay_z_22 σ ln cents), (aM_pay_S_43 σ ln cents)) else (((((cents - (aM_pay_z_10 σ ln cents)) - (aM_pay_z_13 σ ln cents)) - (aM_pay_z_16 σ ln cents)) - (aM_pay_z_19 σ ln cents)) - (aM_pay_z_22 σ ln cents), mkM ((aM_pay_S_36 σ ln cents) 0 0) ((aM_pay_S_36 σ ln cents) 0 1) ((aM_pay_S_36 σ ln cents) 0 2) ((aM_pay_S_36 σ ln cents) 0 3) ((aM_pay_S_36 σ ln cents) 0 4) ((aM_pay_S_36 σ ln cents) 0 5) ((aM_pay_S_36 σ ln cents) 1) ((aM_pay_S_36 σ ln cents) 2) ((aM_pay_S_36 σ ln cents) 3) ((aM_pay_S_36 σ ln cents) 4) ((aM_pay_S_36 σ ln cents) 5) ((aM_pay_S_36 σ ln cents) 6) (upd ((aM_pay_S_36 σ ln cents) 7) ln.toNatClampNeg (((σ 7 ln.toNatClampNeg) - ((upd (upd (upd (upd (σ 16) (((6 * ln) + 0).toNatClampNeg) (aM_pay_z_10 σ ln cents)) (((6 * ln) + 1).toNatClampNeg) (aM_pay_z_13 σ ln cents)) (((6 * ln) + 2).toNatClampNeg) (aM_pay_z_16 σ ln cents)) (((6 * ln) + 3).toNatClampNeg) (aM_pay_z_19 σ ln cents)) (((6 * ln) + 2).toNatClampNeg))) - (aM_pay_z_22 σ ln cents))) ((aM_pay_S_36 σ ln cents) 8) ((aM_pay_S_36 σ ln cents) 9) ((aM_pay_S_36 σ ln cents) 10) (upd ((aM_pay_S_36 σ ln cents) 11) ln.toNatClampNeg (((aM_pay_S_36 σ ln cents) 11 ln.toNatClampNeg) + ((aM_pay_S_36 σ ln cents) 16 (((6 * ln) + 3).toNatClampNeg)))) ((aM_pay_S_36 σ ln cents) 12) ((aM_pay_S_36 σ ln cents) 13) ((aM_pay_S_36 σ ln cents) 14) ((aM_pay_S_36 σ ln cents) 15) ((aM_pay_S_36 σ ln cents) 16) ((aM_pay_S_36 σ ln cents) 17) ((aM_pay_S_36 σ ln cents) 18) ((aM_pay_S_36 σ ln cents) 19) ((aM_pay_S_36 σ ln cents) 20) ((aM_pay_S_36 σ ln cents) 21) ((aM_pay_S_36 σ ln cents) 22)))))) else (0, mkM 1 (σ 0 1) (σ 0 2) (σ 0 3) (σ 0 4) (σ 0 5) (σ 1) (σ 2) (σ 3) (σ 4) (σ 5) (σ 6) (σ 7) (σ 8) (σ 9) (σ 10) (σ 11) (σ 12) (σ 13) (σ 14) (σ 15) (σ 16) (σ 17) (σ 18) (σ 19) (σ 20) (σ 21) (σ 22))
abbrev wgM_pay : List Cond := .code yM_pay cM_pay 7 (some .int) :: GW
abbrev rm_M_pay : Room := { frames := 8, cells := 0, slots := 0, locals := 197 }
set_option maxRecDepth 100000 in
set_option maxHeartbeats 4000000 in
theorem c_M_pay (l : Launch) (D : va_G) (G : Nat → ClassId) (b : Nat → Nat) (σ : KS) (u0 : Int32 × Int32 × Int32) (ln : Int32) (cents : Int32) (sz : Nat) (nl : Nat) (hnl : σ 0 2 = nI nl) (hn3 : nl ≤ 3) (hto : σ 0 1 ≤ 1073741824) (hpp : kM_none σ ln = 0 → (∀ k : Int32, (kM_firstBehind σ ln).toInt ≤ k.toInt → ¬ σ 3 ln.toNatClampNeg < k → kM_dueDay (σ 1 ln.toNatClampNeg) k ≤ 1073741824) ∧ (σ 3 ln.toNatClampNeg).toInt ≤ 36) : Met l yM_pay wgM_pay rm_M_pay (kw_Pc D vwCl (gt G) [.ref (b 0), .int ln, .int cents] (mcells G b (scr σ u0)) sz) (kx_i D vwCl (gt G) (mcells G b (scr σ u0)) sz ((kM_pay σ ln cents).1) (fun u => mcells G b (scr ((kM_pay σ ln cents).2) u))) 0 0 (va_A (mcells G b (scr σ u0)) sz) := by
  refine Met.ofW (cc := cM_pay) (maxL := 7) (ret := (some .int)) (by decide) rfl ?_
  intro p e s m args below meth c s₁ B hml hv
  have hx := B.exec
  have hb := B.bytes
  have hr := B.returns
  have hts := atoms_spec (ws := wgM_pay) B.pre
  have hg : ∀ w ∈ GW, w.before args s = true := fun w h => hts w (List.mem_cons_of_mem _ h)
  have hown : s.vm.findClass RM = some m.cls := findClass_of_methodNamed B.named
  have hlocks := B.notSynchronized
  obtain ⟨hv, hsz, hP, hK, hD0⟩ := hv
  subst hsz
  have hD := hD0.self (sz := s.heap.size)
  have hS : va_S (va_A (mcells G b (scr σ u0)) s.heap.size) s.heap s.heap [] := va_S.rf
  refine kw_entry [.ref (b 0), .int ln, .int cents] hv (Nat.le_of_ble_eq_true rfl) (fun ls hl => ?_)
  have hl : lv_has ls 7 [(0, .ref (b 0)), (1, .int ln), (2, .int cents)] := hl
  refine lv_aload_n hx hb dM_pay_0 rfl (lv_at hl 0 rfl) ?_
  refine lv_aload_n hx hb dM_pay_1 rfl (lv_at hl 0 rfl) ?_
  refine lv_iload_n hx hb dM_pay_2 rfl (lv_at hl 1 rfl) ?_
  refine kx_reti0 (va_runV (C := RM) (As := [.int ln]) (rest := [.ref (b 0)]) ⟨hx, hb, hml, hown, hg⟩ (c_M_none l D G b σ (u0.1, u0.2.1, u0.2.2) ln _) ⟨kw_cB (n := 1) hg gw_655 gw_2 gw_653 (by decide +kernel) (by decide +kernel) ⟨Nat.le_of_ble_eq_true rfl, Nat.le_of_ble_eq_true rfl⟩ rfl rfl, hg _ gw_654, hg _ gw_752⟩ (kw_preV (q0 := 0) hK hP hD rfl rfl) rfl rfl hl.1 rfl (lv_room (Nat.le_of_ble_eq_true rfl)) dM_pay_3 ⟨Nat.le_of_ble_eq_true rfl, Nat.le_of_ble_eq_true rfl⟩) hP hD hS (fun _ h => Or.inr h) (fun u_1 u_2 u_3 H locs hP hD hS => ?_)
  refine lv_topi (fun r_4 e_5 => ?_)
  replace e_5 := e_5.symm
  replace e_5 : aM_pay_r_4 σ ln cents = r_4 := by exact e_5
  refine lv_if_eq (tgt := 13) hx hb dM_pay_6 (by decide) (fun h6 => ?_) (fun h6 => ?_)
  · skip
    refine lv_iload_n hx hb dM_pay_13 rfl (lv_at hl 2 rfl) ?_
    refine lv_iconst (v := 1) hx hb dM_pay_14 (by decide) ?_
    refine lv_ldc (v := 200000000) hx hb hown (hg _ gw_684) dM_pay_15 ?_
    refine kp_reti (va_runS (As := [.int cents, .int 1, .int 200000000]) (rest := [.ref (b 0)]) ⟨hx, hb, hml, hown, hg⟩ (c_M_within l cents (1 : Int32) (200000000 : Int32)) ⟨kw_cB (n := 3) hg gw_604 gw_2 gw_602 (by decide +kernel) (by decide +kernel) ⟨Nat.le_of_ble_eq_true rfl, Nat.le_of_ble_eq_true rfl⟩ rfl rfl, hg _ gw_603⟩ kp_pre rfl rfl hl.1 rfl (lv_room (Nat.le_of_ble_eq_true rfl)) dM_pay_17 ⟨Nat.le_of_ble_eq_true rfl, Nat.le_of_ble_eq_true rfl⟩) ?_
    refine lv_topi (fun r_7 e_8 => ?_)
    replace e_8 := e_8.symm
    replace e_8 : aM_pay_r_7 σ ln cents = r_7 := by subst e_5; exact e_8
    refine lv_if_eq (tgt := 27) hx hb dM_pay_20 (by decide) (fun h9 => ?_) (fun h9 => ?_)
    · skip
      refine lv_iconst (v := 2) hx hb dM_pay_27 (by decide) ?_
      refine kw_put (w' := lm G b 2 (σ 0 1) (σ 0 2) u_1 u_2 u_3 (σ 1) (σ 2) (σ 3) (σ 4) (σ 5) (σ 6) (σ 7) (σ 8) (σ 9) (σ 10) (σ 11) (σ 12) (σ 13) (σ 14) (σ 15) (σ 16) (σ 17) (σ 18) (σ 19) (σ 20) (σ 21) (σ 22)) (v := .int 2) (ty := .int) hx hb hg hin_M tyM tyM_ok nM hown hK hP hD hS 0 rfl rfl 0 (by decide) (hg _ gw_494) (fun _ h => h) rfl (by decide +kernel) rfl rfl (Nat.le_of_ble_eq_true rfl) dM_pay_28 rfl (fun H locs hP hD hS => ?_)
      refine lv_aload_n hx hb dM_pay_31 rfl (lv_at hl 0 rfl) ?_
      refine va_get (v := .int 2) hx hb hg hin_M hown hK hP 0 rfl rfl 0 (by decide) (hg _ gw_494) (fun _ h => h) rfl dM_pay_32 ?_
      refine lv_if_le (tgt := 40) hx hb dM_pay_35 (by decide) (fun h => absurd h (by decide)) (fun _ => ?_)
      refine lv_iconst (v := 0) hx hb dM_pay_38 (by decide) ?_
      have hk9 : kM_pay σ ln cents = (0, mkM 2 (σ 0 1) (σ 0 2) (σ 0 3) (σ 0 4) (σ 0 5) (σ 1) (σ 2) (σ 3) (σ 4) (σ 5) (σ 6) (σ 7) (σ 8) (σ 9) (σ 10) (σ 11) (σ 12) (σ 13) (σ 14) (σ 15) (σ 16) (σ 17) (σ 18) (σ 19) (σ 20) (σ 21) (σ 22)) := by subst e_5 e_8; unfold kM_pay; rw [if_pos h6, if_pos h9]
      exact kx_iret hx hb hr hlocks hK hP hD hS (by rw [hk9]) (u := (u_1, u_2, u_3)) (by rw [hk9] <;> rfl) dM_pay_39
    · skip
      refine lv_iconst (v := 0) hx hb dM_pay_23 (by decide) ?_
      refine lv_goto (tgt := 28) hx hb dM_pay_24 (by decide) ?_
      refine kw_put (w' := lm G b 0 (σ 0 1) (σ 0 2) u_1 u_2 u_3 (σ 1) (σ 2) (σ 3) (σ 4) (σ 5) (σ 6) (σ 7) (σ 8) (σ 9) (σ 10) (σ 11) (σ 12) (σ 13) (σ 14) (σ 15) (σ 16) (σ 17) (σ 18) (σ 19) (σ 20) (σ 21) (σ 22)) (v := .int 0) (ty := .int) hx hb hg hin_M tyM tyM_ok nM hown hK hP hD hS 0 rfl rfl 0 (by decide) (hg _ gw_494) (fun _ h => h) rfl (by decide +kernel) rfl rfl (Nat.le_of_ble_eq_true rfl) dM_pay_28 rfl (fun H locs hP hD hS => ?_)
      refine lv_aload_n hx hb dM_pay_31 rfl (lv_at hl 0 rfl) ?_
      refine va_get (v := .int 0) hx hb hg hin_M hown hK hP 0 rfl rfl 0 (by decide) (hg _ gw_494) (fun _ h => h) rfl dM_pay_32 ?_
      refine lv_if_le (tgt := 40) hx hb dM_pay_35 (by decide) (fun _ => ?_) (fun h => absurd h (by decide))
      refine lv_iload_n hx hb dM_pay_40 rfl (lv_at hl 2 rfl) ?_
      refine lv_istore_n hx hb dM_pay_41 rfl hl (by decide) rfl (fun ls hl => ?_)
      have hl : lv_has ls 7 [(3, .int cents), (0, .ref (b 0)), (1, .int ln), (2, .int cents)] := hl
      refine lv_iconst (v := 0) hx hb dM_pay_42 (by decide) ?_
      refine lv_istore hx hb dM_pay_43 hl (by decide) rfl (fun ls hl => ?_)
      have hl : lv_has ls 7 [(4, .int 0), (3, .int cents), (0, .ref (b 0)), (1, .int ln), (2, .int cents)] := hl
      refine lv_iload hx hb dM_pay_45 (lv_at hl 0 rfl) ?_
      refine lv_iconst (v := 4) hx hb dM_pay_47 (by decide) ?_
      refine lv_icmp_ge (tgt := 119) hx hb dM_pay_48 (by decide) (fun h => absurd h (by decide)) (fun _ => ?_)
      refine lv_aload_n hx hb dM_pay_51 rfl (lv_at hl 2 rfl) ?_
      refine va_get (v := .ref (b 16)) hx hb hg hin_M hown hK hP 0 rfl rfl 16 (by decide) (hg _ gw_510) (fun _ h => h) rfl dM_pay_52 ?_
      refine lv_iconst (v := 4) hx hb dM_pay_55 (by decide) ?_
      refine lv_iload_n hx hb dM_pay_56 rfl (lv_at hl 3 rfl) ?_
      refine lv_imul hx hb dM_pay_57 ?_
      refine lv_iload hx hb dM_pay_58 (lv_at hl 0 rfl) ?_
      refine lv_iadd hx hb dM_pay_60 ?_
      refine kw_iald (v := σ 14 (((4 * ln) + 0).toNatClampNeg)) (j := (((4 * ln) + 0).toNatClampNeg)) hx hb hK hP 14 0 rfl rfl (kx_ix4 (kx_none hnl hn3 (by subst e_5 e_8; exact h6)) (by decide)) rfl rfl dM_pay_61 ?_
      refine lv_istore hx hb dM_pay_62 hl (by decide) rfl (fun ls hl => ?_)
      have hl : lv_has ls 7 [(5, .int (σ 14 (((4 * ln) + 0).toNatClampNeg))), (4, .int 0), (3, .int cents), (0, .ref (b 0)), (1, .int ln), (2, .int cents)] := hl
      refine lv_iload hx hb dM_pay_64 (lv_at hl 0 rfl) ?_
      refine lv_iload_n hx hb dM_pay_66 rfl (lv_at hl 2 rfl) ?_
      refine kw_diamond (c9 := cents ≤ (σ 14 (((4 * ln) + 0).toNatClampNeg))) (x := cents) (y := σ 14 (((4 * ln) + 0).toNatClampNeg)) (g := fun z => F0 m 76 ls (.int z :: [])) (fun jt jf => ?_) (fun z_10 e_11 => ?_)
      · skip
        refine lv_icmp_ge (tgt := 75) hx hb dM_pay_67 (by decide) (fun h12 => ?_) (fun h12 => ?_)
        · skip
          refine lv_iload_n hx hb dM_pay_75 rfl (lv_at hl 2 rfl) ?_
          exact jt h12
        · skip
          refine lv_iload hx hb dM_pay_70 (lv_at hl 0 rfl) ?_
          refine lv_goto (tgt := 76) hx hb dM_pay_72 (by decide) ?_
          exact jf h12
      replace e_11 : aM_pay_z_10 σ ln cents = z_10 := by subst e_5 e_8; exact e_11
      refine lv_istore hx hb dM_pay_76 hl (by decide) rfl (fun ls hl => ?_)
      have hl : lv_has ls 7 [(6, .int z_10), (5, .int (σ 14 (((4 * ln) + 0).toNatClampNeg))), (4, .int 0), (3, .int cents), (0, .ref (b 0)), (1, .int ln), (2, .int cents)] := hl
      refine lv_aload_n hx hb dM_pay_78 rfl (lv_at hl 4 rfl) ?_
      refine va_get (v := .ref (b 18)) hx hb hg hin_M hown hK hP 0 rfl rfl 18 (by decide) (hg _ gw_512) (fun _ h => h) rfl dM_pay_79 ?_
      refine lv_bipush (v := 6) hx hb dM_pay_82 (by decide) ?_
      refine lv_iload_n hx hb dM_pay_84 rfl (lv_at hl 5 rfl) ?_
      refine lv_imul hx hb dM_pay_85 ?_
      refine lv_iload hx hb dM_pay_86 (lv_at hl 2 rfl) ?_
      refine lv_iadd hx hb dM_pay_88 ?_
      refine lv_iload hx hb dM_pay_89 (lv_at hl 0 rfl) ?_
      refine kw_iast (w' := lm G b 0 (σ 0 1) (σ 0 2) u_1 u_2 u_3 (σ 1) (σ 2) (σ 3) (σ 4) (σ 5) (σ 6) (σ 7) (σ 8) (σ 9) (σ 10) (σ 11) (σ 12) (σ 13) (σ 14) (σ 15) (upd (σ 16) (((6 * ln) + 0).toNatClampNeg) z_10) (σ 17) (σ 18) (σ 19) (σ 20) (σ 21) (σ 22)) (j := (((6 * ln) + 0).toNatClampNeg)) hx hb hK hP hD hS 16 0 rfl rfl (kx_ix6 (kx_none hnl hn3 (by subst e_5 e_8 e_11; exact h6)) (by decide)) rfl dM_pay_91 rfl (fun H locs hP hD hS => ?_)
      refine lv_aload_n hx hb dM_pay_92 rfl (lv_at hl 4 rfl) ?_
      refine va_get (v := .ref (b 16)) hx hb hg hin_M hown hK hP 0 rfl rfl 16 (by decide) (hg _ gw_510) (fun _ h => h) rfl dM_pay_93 ?_
      refine lv_iconst (v := 4) hx hb dM_pay_96 (by decide) ?_
      refine lv_iload_n hx hb dM_pay_97 rfl (lv_at hl 5 rfl) ?_
      refine lv_imul hx hb dM_pay_98 ?_
      refine lv_iload hx hb dM_pay_99 (lv_at hl 2 rfl) ?_
      refine lv_iadd hx hb dM_pay_101 ?_
      refine lv_iload hx hb dM_pay_102 (lv_at hl 1 rfl) ?_
      refine lv_iload hx hb dM_pay_104 (lv_at hl 0 rfl) ?_
      refine lv_isub hx hb dM_pay_106 ?_
      refine kw_iast (w' := lm G b 0 (σ 0 1) (σ 0 2) u_1 u_2 u_3 (σ 1) (σ 2) (σ 3) (σ 4) (σ 5) (σ 6) (σ 7) (σ 8) (σ 9) (σ 10) (σ 11) (σ 12) (σ 13) (upd (σ 14) (((4 * ln) + 0).toNatClampNeg) ((σ 14 (((4 * ln) + 0).toNatClampNeg)) - z_10)) (σ 15) (upd (σ 16) (((6 * ln) + 0).toNatClampNeg) z_10) (σ 17) (σ 18) (σ 19) (σ 20) (σ 21) (σ 22)) (j := (((4 * ln) + 0).toNatClampNeg)) hx hb hK hP hD hS 14 0 rfl rfl (kx_ix4 (kx_none hnl hn3 (by subst e_5 e_8 e_11; exact h6)) (by decide)) rfl dM_pay_107 rfl (fun H locs hP hD hS => ?_)
      refine lv_iload_n hx hb dM_pay_108 rfl (lv_at hl 3 rfl) ?_
      refine lv_iload hx hb dM_pay_109 (lv_at hl 0 rfl) ?_
      refine lv_isub hx hb dM_pay_111 ?_
      refine lv_istore_n hx hb dM_pay_112 rfl hl (by decide) rfl (fun ls hl => ?_)
      have hl : lv_has ls 7 [(3, .int (cents - z_10)), (6, .int z_10), (5, .int (σ 14 (((4 * ln) + 0).toNatClampNeg))), (4, .int 0), (0, .ref (b 0)), (1, .int ln), (2, .int cents)] := hl
      refine lv_iinc (v := 1) hx hb dM_pay_113 hl (k := 3) rfl (by first | rfl | decide) (by decide) rfl (fun ls hl => ?_)
      have hl : lv_has ls 7 [(4, .int 1), (3, .int (cents - z_10)), (6, .int z_10), (5, .int (σ 14 (((4 * ln) + 0).toNatClampNeg))), (0, .ref (b 0)), (1, .int ln), (2, .int cents)] := hl
      refine lv_goto (tgt := 45) hx hb dM_pay_116 (by decide) ?_
      refine lv_iload hx hb dM_pay_45 (lv_at hl 0 rfl) ?_
      refine lv_iconst (v := 4) hx hb dM_pay_47 (by decide) ?_
      refine lv_icmp_ge (tgt := 119) hx hb dM_pay_48 (by decide) (fun h => absurd h (by decide)) (fun _ => ?_)
      refine lv_aload_n hx hb dM_pay_51 rfl (lv_at hl 4 rfl) ?_
      refine va_get (v := .ref (b 16)) hx hb hg hin_M hown hK hP 0 rfl rfl 16 (by decide) (hg _ gw_510) (fun _ h => h) rfl dM_pay_52 ?_
      refine lv_iconst (v := 4) hx hb dM_pay_55 (by decide) ?_
      refine lv_iload_n hx hb dM_pay_56 rfl (lv_at hl 5 rfl) ?_
      refine lv_imul hx hb dM_pay_57 ?_
      refine lv_iload hx hb dM_pay_58 (lv_at hl 0 rfl) ?_
      refine lv_iadd hx hb dM_pay_60 ?_
      refine kw_iald (v := (upd (σ 14) (((4 * ln) + 0).toNatClampNeg) ((σ 14 (((4 * ln) + 0).toNatClampNeg)) - z_10)) (((4 * ln) + 1).toNatClampNeg)) (j := (((4 * ln) + 1).toNatClampNeg)) hx hb hK hP 14 0 rfl rfl (kx_ix4 (kx_none hnl hn3 (by subst e_5 e_8 e_11; exact h6)) (by decide)) rfl rfl dM_pay_61 ?_
      refine lv_istore hx hb dM_pay_62 hl (by decide) rfl (fun ls hl => ?_)
      have hl : lv_has ls 7 [(5, .int ((upd (σ 14) (((4 * ln) + 0).toNatClampNeg) ((σ 14 (((4 * ln) + 0).toNatClampNeg)) - z_10)) (((4 * ln) + 1).toNatClampNeg))), (4, .int 1), (3, .int (cents - z_10)), (6, .int z_10), (0, .ref (b 0)), (1, .int ln), (2, .int cents)] := hl
      refine lv_iload hx hb dM_pay_64 (lv_at hl 0 rfl) ?_
      refine lv_iload_n hx hb dM_pay_66 rfl (lv_at hl 2 rfl) ?_
      refine kw_diamond (c9 := (cents - z_10) ≤ ((upd (σ 14) (((4 * ln) + 0).toNatClampNeg) ((σ 14 (((4 * ln) + 0).toNatClampNeg)) - z_10)) (((4 * ln) + 1).toNatClampNeg))) (x := cents - z_10) (y := (upd (σ 14) (((4 * ln) + 0).toNatClampNeg) ((σ 14 (((4 * ln) + 0).toNatClampNeg)) - z_10)) (((4 * ln) + 1).toNatClampNeg)) (g := fun z => F0 m 76 ls (.int z :: [])) (fun jt jf => ?_) (fun z_13 e_14 => ?_)
      · skip
        refine lv_icmp_ge (tgt := 75) hx hb dM_pay_67 (by decide) (fun h15 => ?_) (fun h15 => ?_)
        · skip
          refine lv_iload_n hx hb dM_pay_75 rfl (lv_at hl 2 rfl) ?_
          exact jt h15
        · skip
          refine lv_iload hx hb dM_pay_70 (lv_at hl 0 rfl) ?_
          refine lv_goto (tgt := 76) hx hb dM_pay_72 (by decide) ?_
          exact jf h15
      replace e_14 : aM_pay_z_13 σ ln cents = z_13 := by subst e_5 e_8 e_11; exact e_14
      refine lv_istore hx hb dM_pay_76 hl (by decide) rfl (fun ls hl => ?_)
      have hl : lv_has ls 7 [(6, .int z_13), (5, .int ((upd (σ 14) (((4 * ln) + 0).toNatClampNeg) ((σ 14 (((4 * ln) + 0).toNatClampNeg)) - z_10)) (((4 * ln) + 1).toNatClampNeg))), (4, .int 1), (3, .int (cents - z_10)), (0, .ref (b 0)), (1, .int ln), (2, .int cents)] := hl
      refine lv_aload_n hx hb dM_pay_78 rfl (lv_at hl 4 rfl) ?_
      refine va_get (v := .ref (b 18)) hx hb hg hin_M hown hK hP 0 rfl rfl 18 (by decide) (hg _ gw_512) (fun _ h => h) rfl dM_pay_79 ?_
      refine lv_bipush (v := 6) hx hb dM_pay_82 (by decide) ?_
      refine lv_iload_n hx hb dM_pay_84 rfl (lv_at hl 5 rfl) ?_
      refine lv_imul hx hb dM_pay_85 ?_
      refine lv_iload hx hb dM_pay_86 (lv_at hl 2 rfl) ?_
      refine lv_iadd hx hb dM_pay_88 ?_
      refine lv_iload hx hb dM_pay_89 (lv_at hl 0 rfl) ?_
      refine kw_iast (w' := lm G b 0 (σ 0 1) (σ 0 2) u_1 u_2 u_3 (σ 1) (σ 2) (σ 3) (σ 4) (σ 5) (σ 6) (σ 7) (σ 8) (σ 9) (σ 10) (σ 11) (σ 12) (σ 13) (upd (σ 14) (((4 * ln) + 0).toNatClampNeg) ((σ 14 (((4 * ln) + 0).toNatClampNeg)) - z_10)) (σ 15) (upd (upd (σ 16) (((6 * ln) + 0).toNatClampNeg) z_10) (((6 * ln) + 1).toNatClampNeg) z_13) (σ 17) (σ 18) (σ 19) (σ 20) (σ 21) (σ 22)) (j := (((6 * ln) + 1).toNatClampNeg)) hx hb hK hP hD hS 16 0 rfl rfl (kx_ix6 (kx_none hnl hn3 (by subst e_5 e_8 e_11 e_14; exact h6)) (by decide)) rfl dM_pay_91 rfl (fun H locs hP hD hS => ?_)
      refine lv_aload_n hx hb dM_pay_92 rfl (lv_at hl 4 rfl) ?_
      refine va_get (v := .ref (b 16)) hx hb hg hin_M hown hK hP 0 rfl rfl 16 (by decide) (hg _ gw_510) (fun _ h => h) rfl dM_pay_93 ?_
      refine lv_iconst (v := 4) hx hb dM_pay_96 (by decide) ?_
      refine lv_iload_n hx hb dM_pay_97 rfl (lv_at hl 5 rfl) ?_
      refine lv_imul hx hb dM_pay_98 ?_
      refine lv_iload hx hb dM_pay_99 (lv_at hl 2 rfl) ?_
      refine lv_iadd hx hb dM_pay_101 ?_
      refine lv_iload hx hb dM_pay_102 (lv_at hl 1 rfl) ?_
      refine lv_iload hx hb dM_pay_104 (lv_at hl 0 rfl) ?_
      refine lv_isub hx hb dM_pay_106 ?_
      refine kw_iast (w' := lm G b 0 (σ 0 1) (σ 0 2) u_1 u_2 u_3 (σ 1) (σ 2) (σ 3) (σ 4) (σ 5) (σ 6) (σ 7) (σ 8) (σ 9) (σ 10) (σ 11) (σ 12) (σ 13) (upd (upd (σ 14) (((4 * ln) + 0).toNatClampNeg) ((σ 14 (((4 * ln) + 0).toNatClampNeg)) - z_10)) (((4 * ln) + 1).toNatClampNeg) (((upd (σ 14) (((4 * ln) + 0).toNatClampNeg) ((σ 14 (((4 * ln) + 0).toNatClampNeg)) - z_10)) (((4 * ln) + 1).toNatClampNeg)) - z_13)) (σ 15) (upd (upd (σ 16) (((6 * ln) + 0).toNatClampNeg) z_10) (((6 * ln) + 1).toNatClampNeg) z_13) (σ 17) (σ 18) (σ 19) (σ 20) (σ 21) (σ 22)) (j := (((4 * ln) + 1).toNatClampNeg)) hx hb hK hP hD hS 14 0 rfl rfl (kx_ix4 (kx_none hnl hn3 (by subst e_5 e_8 e_11 e_14; exact h6)) (by decide)) rfl dM_pay_107 rfl (fun H locs hP hD hS => ?_)
      refine lv_iload_n hx hb dM_pay_108 rfl (lv_at hl 3 rfl) ?_
      refine lv_iload hx hb dM_pay_109 (lv_at hl 0 rfl) ?_
      refine lv_isub hx hb dM_pay_111 ?_
      refine lv_istore_n hx hb dM_pay_112 rfl hl (by decide) rfl (fun ls hl => ?_)
      have hl : lv_has ls 7 [(3, .int ((cents - z_10) - z_13)), (6, .int z_13), (5, .int ((upd (σ 14) (((4 * ln) + 0).toNatClampNeg) ((σ 14 (((4 * ln) + 0).toNatClampNeg)) - z_10)) (((4 * ln) + 1).toNatClampNeg))), (4, .int 1), (0, .ref (b 0)), (1, .int ln), (2, .int cents)] := hl
      refine lv_iinc (v := 2) hx hb dM_pay_113 hl (k := 3) rfl (by first | rfl | decide) (by decide) rfl (fun ls hl => ?_)
      have hl : lv_has ls 7 [(4, .int 2), (3, .int ((cents - z_10) - z_13)), (6, .int z_13), (5, .int ((upd (σ 14) (((4 * ln) + 0).toNatClampNeg) ((σ 14 (((4 * ln) + 0).toNatClampNeg)) - z_10)) (((4 * ln) + 1).toNatClampNeg))), (0, .ref (b 0)), (1, .int ln), (2, .int cents)] := hl
      refine lv_goto (tgt := 45) hx hb dM_pay_116 (by decide) ?_
      refine lv_iload hx hb dM_pay_45 (lv_at hl 0 rfl) ?_
      refine lv_iconst (v := 4) hx hb dM_pay_47 (by decide) ?_
      refine lv_icmp_ge (tgt := 119) hx hb dM_pay_48 (by decide) (fun h => absurd h (by decide)) (fun _ => ?_)
      refine lv_aload_n hx hb dM_pay_51 rfl (lv_at hl 4 rfl) ?_
      refine va_get (v := .ref (b 16)) hx hb hg hin_M hown hK hP 0 rfl rfl 16 (by decide) (hg _ gw_510) (fun _ h => h) rfl dM_pay_52 ?_
      refine lv_iconst (v := 4) hx hb dM_pay_55 (by decide) ?_
      refine lv_iload_n hx hb dM_pay_56 rfl (lv_at hl 5 rfl) ?_
      refine lv_imul hx hb dM_pay_57 ?_
      refine lv_iload hx hb dM_pay_58 (lv_at hl 0 rfl) ?_
      refine lv_iadd hx hb dM_pay_60 ?_
      refine kw_iald (v := (upd (upd (σ 14) (((4 * ln) + 0).toNatClampNeg) ((σ 14 (((4 * ln) + 0).toNatClampNeg)) - z_10)) (((4 * ln) + 1).toNatClampNeg) (((upd (σ 14) (((4 * ln) + 0).toNatClampNeg) ((σ 14 (((4 * ln) + 0).toNatClampNeg)) - z_10)) (((4 * ln) + 1).toNatClampNeg)) - z_13)) (((4 * ln) + 2).toNatClampNeg)) (j := (((4 * ln) + 2).toNatClampNeg)) hx hb hK hP 14 0 rfl rfl (kx_ix4 (kx_none hnl hn3 (by subst e_5 e_8 e_11 e_14; exact h6)) (by decide)) rfl rfl dM_pay_61 ?_
      refine lv_istore hx hb dM_pay_62 hl (by decide) rfl (fun ls hl => ?_)
      have hl : lv_has ls 7 [(5, .int ((upd (upd (σ 14) (((4 * ln) + 0).toNatClampNeg) ((σ 14 (((4 * ln) + 0).toNatClampNeg)) - z_10)) (((4 * ln) + 1).toNatClampNeg) (((upd (σ 14) (((4 * ln) + 0).toNatClampNeg) ((σ 14 (((4 * ln) + 0).toNatClampNeg)) - z_10)) (((4 * ln) + 1).toNatClampNeg)) - z_13)) (((4 * ln) + 2).toNatClampNeg))), (4, .int 2), (3, .int ((cents - z_10) - z_13)), (6, .int z_13), (0, .ref (b 0)), (1, .int ln), (2, .int cents)] := hl
      refine lv_iload hx hb dM_pay_64 (lv_at hl 0 rfl) ?_
      refine lv_iload_n hx hb dM_pay_66 rfl (lv_at hl 2 rfl) ?_
      refine kw_diamond (c9 := ((cents - z_10) - z_13) ≤ ((upd (upd (σ 14) (((4 * ln) + 0).toNatClampNeg) ((σ 14 (((4 * ln) + 0).toNatClampNeg)) - z_10)) (((4 * ln) + 1).toNatClampNeg) (((upd (σ 14) (((4 * ln) + 0).toNatClampNeg) ((σ 14 (((4 * ln) + 0).toNatClampNeg)) - z_10)) (((4 * ln) + 1).toNatClampNeg)) - z_13)) (((4 * ln) + 2).toNatClampNeg))) (x := (cents - z_10) - z_13) (y := (upd (upd (σ 14) (((4 * ln) + 0).toNatClampNeg) ((σ 14 (((4 * ln) + 0).toNatClampNeg)) - z_10)) (((4 * ln) + 1).toNatClampNeg) (((upd (σ 14) (((4 * ln) + 0).toNatClampNeg) ((σ 14 (((4 * ln) + 0).toNatClampNeg)) - z_10)) (((4 * ln) + 1).toNatClampNeg)) - z_13)) (((4 * ln) + 2).toNatClampNeg)) (g := fun z => F0 m 76 ls (.int z :: [])) (fun jt jf => ?_) (fun z_16 e_17 => ?_)
      · skip
        refine lv_icmp_ge (tgt := 75) hx hb dM_pay_67 (by decide) (fun h18 => ?_) (fun h18 => ?_)
        · skip
          refine lv_iload_n hx hb dM_pay_75 rfl (lv_at hl 2 rfl) ?_
          exact jt h18
        · skip
          refine lv_iload hx hb dM_pay_70 (lv_at hl 0 rfl) ?_
          refine lv_goto (tgt := 76) hx hb dM_pay_72 (by decide) ?_
          exact jf h18
      replace e_17 : aM_pay_z_16 σ ln cents = z_16 := by subst e_5 e_8 e_11 e_14; exact e_17
      refine lv_istore hx hb dM_pay_76 hl (by decide) rfl (fun ls hl => ?_)
      have hl : lv_has ls 7 [(6, .int z_16), (5, .int ((upd (upd (σ 14) (((4 * ln) + 0).toNatClampNeg) ((σ 14 (((4 * ln) + 0).toNatClampNeg)) - z_10)) (((4 * ln) + 1).toNatClampNeg) (((upd (σ 14) (((4 * ln) + 0).toNatClampNeg) ((σ 14 (((4 * ln) + 0).toNatClampNeg)) - z_10)) (((4 * ln) + 1).toNatClampNeg)) - z_13)) (((4 * ln) + 2).toNatClampNeg))), (4, .int 2), (3, .int ((cents - z_10) - z_13)), (0, .ref (b 0)), (1, .int ln), (2, .int cents)] := hl
      refine lv_aload_n hx hb dM_pay_78 rfl (lv_at hl 4 rfl) ?_
      refine va_get (v := .ref (b 18)) hx hb hg hin_M hown hK hP 0 rfl rfl 18 (by decide) (hg _ gw_512) (fun _ h => h) rfl dM_pay_79 ?_
      refine lv_bipush (v := 6) hx hb dM_pay_82 (by decide) ?_
      refine lv_iload_n hx hb dM_pay_84 rfl (lv_at hl 5 rfl) ?_
      refine lv_imul hx hb dM_pay_85 ?_
      refine lv_iload hx hb dM_pay_86 (lv_at hl 2 rfl) ?_
      refine lv_iadd hx hb dM_pay_88 ?_
      refine lv_iload hx hb dM_pay_89 (lv_at hl 0 rfl) ?_
      refine kw_iast (w' := lm G b 0 (σ 0 1) (σ 0 2) u_1 u_2 u_3 (σ 1) (σ 2) (σ 3) (σ 4) (σ 5) (σ 6) (σ 7) (σ 8) (σ 9) (σ 10) (σ 11) (σ 12) (σ 13) (upd (upd (σ 14) (((4 * ln) + 0).toNatClampNeg) ((σ 14 (((4 * ln) + 0).toNatClampNeg)) - z_10)) (((4 * ln) + 1).toNatClampNeg) (((upd (σ 14) (((4 * ln) + 0).toNatClampNeg) ((σ 14 (((4 * ln) + 0).toNatClampNeg)) - z_10)) (((4 * ln) + 1).toNatClampNeg)) - z_13)) (σ 15) (upd (upd (upd (σ 16) (((6 * ln) + 0).toNatClampNeg) z_10) (((6 * ln) + 1).toNatClampNeg) z_13) (((6 * ln) + 2).toNatClampNeg) z_16) (σ 17) (σ 18) (σ 19) (σ 20) (σ 21) (σ 22)) (j := (((6 * ln) + 2).toNatClampNeg)) hx hb hK hP hD hS 16 0 rfl rfl (kx_ix6 (kx_none hnl hn3 (by subst e_5 e_8 e_11 e_14 e_17; exact h6)) (by decide)) rfl dM_pay_91 rfl (fun H locs hP hD hS => ?_)
      refine lv_aload_n hx hb dM_pay_92 rfl (lv_at hl 4 rfl) ?_
      refine va_get (v := .ref (b 16)) hx hb hg hin_M hown hK hP 0 rfl rfl 16 (by decide) (hg _ gw_510) (fun _ h => h) rfl dM_pay_93 ?_
      refine lv_iconst (v := 4) hx hb dM_pay_96 (by decide) ?_
      refine lv_iload_n hx hb dM_pay_97 rfl (lv_at hl 5 rfl) ?_
      refine lv_imul hx hb dM_pay_98 ?_
      refine lv_iload hx hb dM_pay_99 (lv_at hl 2 rfl) ?_
      refine lv_iadd hx hb dM_pay_101 ?_
      refine lv_iload hx hb dM_pay_102 (lv_at hl 1 rfl) ?_
      refine lv_iload hx hb dM_pay_104 (lv_at hl 0 rfl) ?_
      refine lv_isub hx hb dM_pay_106 ?_
      refine kw_iast (w' := lm G b 0 (σ 0 1) (σ 0 2) u_1 u_2 u_3 (σ 1) (σ 2) (σ 3) (σ 4) (σ 5) (σ 6) (σ 7) (σ 8) (σ 9) (σ 10) (σ 11) (σ 12) (σ 13) (upd (upd (upd (σ 14) (((4 * ln) + 0).toNatClampNeg) ((σ 14 (((4 * ln) + 0).toNatClampNeg)) - z_10)) (((4 * ln) + 1).toNatClampNeg) (((upd (σ 14) (((4 * ln) + 0).toNatClampNeg) ((σ 14 (((4 * ln) + 0).toNatClampNeg)) - z_10)) (((4 * ln) + 1).toNatClampNeg)) - z_13)) (((4 * ln) + 2).toNatClampNeg) (((upd (upd (σ 14) (((4 * ln) + 0).toNatClampNeg) ((σ 14 (((4 * ln) + 0).toNatClampNeg)) - z_10)) (((4 * ln) + 1).toNatClampNeg) (((upd (σ 14) (((4 * ln) + 0).toNatClampNeg) ((σ 14 (((4 * ln) + 0).toNatClampNeg)) - z_10)) (((4 * ln) + 1).toNatClampNeg)) - z_13)) (((4 * ln) + 2).toNatClampNeg)) - z_16)) (σ 15) (upd (upd (upd (σ 16) (((6 * ln) + 0).toNatClampNeg) z_10) (((6 * ln) + 1).toNatClampNeg) z_13) (((6 * ln) + 2).toNatClampNeg) z_16) (σ 17) (σ 18) (σ 19) (σ 20) (σ 21) (σ 22)) (j := (((4 * ln) + 2).toNatClampNeg)) hx hb hK hP hD hS 14 0 rfl rfl (kx_ix4 (kx_none hnl hn3 (by subst e_5 e_8 e_11 e_14 e_17; exact h6)) (by decide)) rfl dM_pay_107 rfl (fun H locs hP hD hS => ?_)
      refine lv_iload_n hx hb dM_pay_108 rfl (lv_at hl 3 rfl) ?_
      refine lv_iload hx hb dM_pay_109 (lv_at hl 0 rfl) ?_
      refine lv_isub hx hb dM_pay_111 ?_
      refine lv_istore_n hx hb dM_pay_112 rfl hl (by decide) rfl (fun ls hl => ?_)
      have hl : lv_has ls 7 [(3, .int (((cents - z_10) - z_13) - z_16)), (6, .int z_16), (5, .int ((upd (upd (σ 14) (((4 * ln) + 0).toNatClampNeg) ((σ 14 (((4 * ln) + 0).toNatClampNeg)) - z_10)) (((4 * ln) + 1).toNatClampNeg) (((upd (σ 14) (((4 * ln) + 0).toNatClampNeg) ((σ 14 (((4 * ln) + 0).toNatClampNeg)) - z_10)) (((4 * ln) + 1).toNatClampNeg)) - z_13)) (((4 * ln) + 2).toNatClampNeg))), (4, .int 2), (0, .ref (b 0)), (1, .int ln), (2, .int cents)] := hl
      refine lv_iinc (v := 3) hx hb dM_pay_113 hl (k := 3) rfl (by first | rfl | decide) (by decide) rfl (fun ls hl => ?_)
      have hl : lv_has ls 7 [(4, .int 3), (3, .int (((cents - z_10) - z_13) - z_16)), (6, .int z_16), (5, .int ((upd (upd (σ 14) (((4 * ln) + 0).toNatClampNeg) ((σ 14 (((4 * ln) + 0).toNatClampNeg)) - z_10)) (((4 * ln) + 1).toNatClampNeg) (((upd (σ 14) (((4 * ln) + 0).toNatClampNeg) ((σ 14 (((4 * ln) + 0).toNatClampNeg)) - z_10)) (((4 * ln) + 1).toNatClampNeg)) - z_13)) (((4 * ln) + 2).toNatClampNeg))), (0, .ref (b 0)), (1, .int ln), (2, .int cents)] := hl
      refine lv_goto (tgt := 45) hx hb dM_pay_116 (by decide) ?_
      refine lv_iload hx hb dM_pay_45 (lv_at hl 0 rfl) ?_
      refine lv_iconst (v := 4) hx hb dM_pay_47 (by decide) ?_
      refine lv_icmp_ge (tgt := 119) hx hb dM_pay_48 (by decide) (fun h => absurd h (by decide)) (fun _ => ?_)
      refine lv_aload_n hx hb dM_pay_51 rfl (lv_at hl 4 rfl) ?_
      refine va_get (v := .ref (b 16)) hx hb hg hin_M hown hK hP 0 rfl rfl 16 (by decide) (hg _ gw_510) (fun _ h => h) rfl dM_pay_52 ?_
      refine lv_iconst (v := 4) hx hb dM_pay_55 (by decide) ?_
      refine lv_iload_n hx hb dM_pay_56 rfl (lv_at hl 5 rfl) ?_
      refine lv_imul hx hb dM_pay_57 ?_
      refine lv_iload hx hb dM_pay_58 (lv_at hl 0 rfl) ?_
      refine lv_iadd hx hb dM_pay_60 ?_
      refine kw_iald (v := (upd (upd (upd (σ 14) (((4 * ln) + 0).toNatClampNeg) ((σ 14 (((4 * ln) + 0).toNatClampNeg)) - z_10)) (((4 * ln) + 1).toNatClampNeg) (((upd (σ 14) (((4 * ln) + 0).toNatClampNeg) ((σ 14 (((4 * ln) + 0).toNatClampNeg)) - z_10)) (((4 * ln) + 1).toNatClampNeg)) - z_13)) (((4 * ln) + 2).toNatClampNeg) (((upd (upd (σ 14) (((4 * ln) + 0).toNatClampNeg) ((σ 14 (((4 * ln) + 0).toNatClampNeg)) - z_10)) (((4 * ln) + 1).toNatClampNeg) (((upd (σ 14) (((4 * ln) + 0).toNatClampNeg) ((σ 14 (((4 * ln) + 0).toNatClampNeg)) - z_10)) (((4 * ln) + 1).toNatClampNeg)) - z_13)) (((4 * ln) + 2).toNatClampNeg)) - z_16)) (((4 * ln) + 3).toNatClampNeg)) (j := (((4 * ln) + 3).toNatClampNeg)) hx hb hK hP 14 0 rfl rfl (kx_ix4 (kx_none hnl hn3 (by subst e_5 e_8 e_11 e_14 e_17; exact h6)) (by decide)) rfl rfl dM_pay_61 ?_
      refine lv_istore hx hb dM_pay_62 hl (by decide) rfl (fun ls hl => ?_)
      have hl : lv_has ls 7 [(5, .int ((upd (upd (upd (σ 14) (((4 * ln) + 0).toNatClampNeg) ((σ 14 (((4 * ln) + 0).toNatClampNeg)) - z_10)) (((4 * ln) + 1).toNatClampNeg) (((upd (σ 14) (((4 * ln) + 0).toNatClampNeg) ((σ 14 (((4 * ln) + 0).toNatClampNeg)) - z_10)) (((4 * ln) + 1).toNatClampNeg)) - z_13)) (((4 * ln) + 2).toNatClampNeg) (((upd (upd (σ 14) (((4 * ln) + 0).toNatClampNeg) ((σ 14 (((4 * ln) + 0).toNatClampNeg)) - z_10)) (((4 * ln) + 1).toNatClampNeg) (((upd (σ 14) (((4 * ln) + 0).toNatClampNeg) ((σ 14 (((4 * ln) + 0).toNatClampNeg)) - z_10)) (((4 * ln) + 1).toNatClampNeg)) - z_13)) (((4 * ln) + 2).toNatClampNeg)) - z_16)) (((4 * ln) + 3).toNatClampNeg))), (4, .int 3), (3, .int (((cents - z_10) - z_13) - z_16)), (6, .int z_16), (0, .ref (b 0)), (1, .int ln), (2, .int cents)] := hl
      refine lv_iload hx hb dM_pay_64 (lv_at hl 0 rfl) ?_
      refine lv_iload_n hx hb dM_pay_66 rfl (lv_at hl 2 rfl) ?_
      refine kw_diamond (c9 := (((cents - z_10) - z_13) - z_16) ≤ ((upd (upd (upd (σ 14) (((4 * ln) + 0).toNatClampNeg) ((σ 14 (((4 * ln) + 0).toNatClampNeg)) - z_10)) (((4 * ln) + 1).toNatClampNeg) (((upd (σ 14) (((4 * ln) + 0).toNatClampNeg) ((σ 14 (((4 * ln) + 0).toNatClampNeg)) - z_10)) (((4 * ln) + 1).toNatClampNeg)) - z_13)) (((4 * ln) + 2).toNatClampNeg) (((upd (upd (σ 14) (((4 * ln) + 0).toNatClampNeg) ((σ 14 (((4 * ln) + 0).toNatClampNeg)) - z_10)) (((4 * ln) + 1).toNatClampNeg) (((upd (σ 14) (((4 * ln) + 0).toNatClampNeg) ((σ 14 (((4 * ln) + 0).toNatClampNeg)) - z_10)) (((4 * ln) + 1).toNatClampNeg)) - z_13)) (((4 * ln) + 2).toNatClampNeg)) - z_16)) (((4 * ln) + 3).toNatClampNeg))) (x := ((cents - z_10) - z_13) - z_16) (y := (upd (upd (upd (σ 14) (((4 * ln) + 0).toNatClampNeg) ((σ 14 (((4 * ln) + 0).toNatClampNeg)) - z_10)) (((4 * ln) + 1).toNatClampNeg) (((upd (σ 14) (((4 * ln) + 0).toNatClampNeg) ((σ 14 (((4 * ln) + 0).toNatClampNeg)) - z_10)) (((4 * ln) + 1).toNatClampNeg)) - z_13)) (((4 * ln) + 2).toNatClampNeg) (((upd (upd (σ 14) (((4 * ln) + 0).toNatClampNeg) ((σ 14 (((4 * ln) + 0).toNatClampNeg)) - z_10)) (((4 * ln) + 1).toNatClampNeg) (((upd (σ 14) (((4 * ln) + 0).toNatClampNeg) ((σ 14 (((4 * ln) + 0).toNatClampNeg)) - z_10)) (((4 * ln) + 1).toNatClampNeg)) - z_13)) (((4 * ln) + 2).toNatClampNeg)) - z_16)) (((4 * ln) + 3).toNatClampNeg)) (g := fun z => F0 m 76 ls (.int z :: [])) (fun jt jf => ?_) (fun z_19 e_20 => ?_)
      · skip
        refine lv_icmp_ge (tgt := 75) hx hb dM_pay_67 (by decide) (fun h21 => ?_) (fun h21 => ?_)
        · skip
          refine lv_iload_n hx hb dM_pay_75 rfl (lv_at hl 2 rfl) ?_
          exact jt h21
        · skip
          refine lv_iload hx hb dM_pay_70 (lv_at hl 0 rfl) ?_
          refine lv_goto (tgt := 76) hx hb dM_pay_72 (by decide) ?_
          exact jf h21
      replace e_20 : aM_pay_z_19 σ ln cents = z_19 := by subst e_5 e_8 e_11 e_14 e_17; exact e_20
      refine lv_istore hx hb dM_pay_76 hl (by decide) rfl (fun ls hl => ?_)
      have hl : lv_has ls 7 [(6, .int z_19), (5, .int ((upd (upd (upd (σ 14) (((4 * ln) + 0).toNatClampNeg) ((σ 14 (((4 * ln) + 0).toNatClampNeg)) - z_10)) (((4 * ln) + 1).toNatClampNeg) (((upd (σ 14) (((4 * ln) + 0).toNatClampNeg) ((σ 14 (((4 * ln) + 0).toNatClampNeg)) - z_10)) (((4 * ln) + 1).toNatClampNeg)) - z_13)) (((4 * ln) + 2).toNatClampNeg) (((upd (upd (σ 14) (((4 * ln) + 0).toNatClampNeg) ((σ 14 (((4 * ln) + 0).toNatClampNeg)) - z_10)) (((4 * ln) + 1).toNatClampNeg) (((upd (σ 14) (((4 * ln) + 0).toNatClampNeg) ((σ 14 (((4 * ln) + 0).toNatClampNeg)) - z_10)) (((4 * ln) + 1).toNatClampNeg)) - z_13)) (((4 * ln) + 2).toNatClampNeg)) - z_16)) (((4 * ln) + 3).toNatClampNeg))), (4, .int 3), (3, .int (((cents - z_10) - z_13) - z_16)), (0, .ref (b 0)), (1, .int ln), (2, .int cents)] := hl
      refine lv_aload_n hx hb dM_pay_78 rfl (lv_at hl 4 rfl) ?_
      refine va_get (v := .ref (b 18)) hx hb hg hin_M hown hK hP 0 rfl rfl 18 (by decide) (hg _ gw_512) (fun _ h => h) rfl dM_pay_79 ?_
      refine lv_bipush (v := 6) hx hb dM_pay_82 (by decide) ?_
      refine lv_iload_n hx hb dM_pay_84 rfl (lv_at hl 5 rfl) ?_
      refine lv_imul hx hb dM_pay_85 ?_
      refine lv_iload hx hb dM_pay_86 (lv_at hl 2 rfl) ?_
      refine lv_iadd hx hb dM_pay_88 ?_
      refine lv_iload hx hb dM_pay_89 (lv_at hl 0 rfl) ?_
      refine kw_iast (w' := lm G b 0 (σ 0 1) (σ 0 2) u_1 u_2 u_3 (σ 1) (σ 2) (σ 3) (σ 4) (σ 5) (σ 6) (σ 7) (σ 8) (σ 9) (σ 10) (σ 11) (σ 12) (σ 13) (upd (upd (upd (σ 14) (((4 * ln) + 0).toNatClampNeg) ((σ 14 (((4 * ln) + 0).toNatClampNeg)) - z_10)) (((4 * ln) + 1).toNatClampNeg) (((upd (σ 14) (((4 * ln) + 0).toNatClampNeg) ((σ 14 (((4 * ln) + 0).toNatClampNeg)) - z_10)) (((4 * ln) + 1).toNatClampNeg)) - z_13)) (((4 * ln) + 2).toNatClampNeg) (((upd (upd (σ 14) (((4 * ln) + 0).toNatClampNeg) ((σ 14 (((4 * ln) + 0).toNatClampNeg)) - z_10)) (((4 * ln) + 1).toNatClampNeg) (((upd (σ 14) (((4 * ln) + 0).toNatClampNeg) ((σ 14 (((4 * ln) + 0).toNatClampNeg)) - z_10)) (((4 * ln) + 1).toNatClampNeg)) - z_13)) (((4 * ln) + 2).toNatClampNeg)) - z_16)) (σ 15) (upd (upd (upd (upd (σ 16) (((6 * ln) + 0).toNatClampNeg) z_10) (((6 * ln) + 1).toNatClampNeg) z_13) (((6 * ln) + 2).toNatClampNeg) z_16) (((6 * ln) + 3).toNatClampNeg) z_19) (σ 17) (σ 18) (σ 19) (σ 20) (σ 21) (σ 22)) (j := (((6 * ln) + 3).toNatClampNeg)) hx hb hK hP hD hS 16 0 rfl rfl (kx_ix6 (kx_none hnl hn3 (by subst e_5 e_8 e_11 e_14 e_17 e_20; exact h6)) (by decide)) rfl dM_pay_91 rfl (fun H locs hP hD hS => ?_)
      refine lv_aload_n hx hb dM_pay_92 rfl (lv_at hl 4 rfl) ?_
      refine va_get (v := .ref (b 16)) hx hb hg hin_M hown hK hP 0 rfl rfl 16 (by decide) (hg _ gw_510) (fun _ h => h) rfl dM_pay_93 ?_
      refine lv_iconst (v := 4) hx hb dM_pay_96 (by decide) ?_
      refine lv_iload_n hx hb dM_pay_97 rfl (lv_at hl 5 rfl) ?_
      refine lv_imul hx hb dM_pay_98 ?_
      refine lv_iload hx hb dM_pay_99 (lv_at hl 2 rfl) ?_
      refine lv_iadd hx hb dM_pay_101 ?_
      refine lv_iload hx hb dM_pay_102 (lv_at hl 1 rfl) ?_
      refine lv_iload hx hb dM_pay_104 (lv_at hl 0 rfl) ?_
      refine lv_isub hx hb dM_pay_106 ?_
      refine kw_iast (w' := lm G b 0 (σ 0 1) (σ 0 2) u_1 u_2 u_3 (σ 1) (σ 2) (σ 3) (σ 4) (σ 5) (σ 6) (σ 7) (σ 8) (σ 9) (σ 10) (σ 11) (σ 12) (σ 13) (upd (upd (upd (upd (σ 14) (((4 * ln) + 0).toNatClampNeg) ((σ 14 (((4 * ln) + 0).toNatClampNeg)) - z_10)) (((4 * ln) + 1).toNatClampNeg) (((upd (σ 14) (((4 * ln) + 0).toNatClampNeg) ((σ 14 (((4 * ln) + 0).toNatClampNeg)) - z_10)) (((4 * ln) + 1).toNatClampNeg)) - z_13)) (((4 * ln) + 2).toNatClampNeg) (((upd (upd (σ 14) (((4 * ln) + 0).toNatClampNeg) ((σ 14 (((4 * ln) + 0).toNatClampNeg)) - z_10)) (((4 * ln) + 1).toNatClampNeg) (((upd (σ 14) (((4 * ln) + 0).toNatClampNeg) ((σ 14 (((4 * ln) + 0).toNatClampNeg)) - z_10)) (((4 * ln) + 1).toNatClampNeg)) - z_13)) (((4 * ln) + 2).toNatClampNeg)) - z_16)) (((4 * ln) + 3).toNatClampNeg) (((upd (upd (upd (σ 14) (((4 * ln) + 0).toNatClampNeg) ((σ 14 (((4 * ln) + 0).toNatClampNeg)) - z_10)) (((4 * ln) + 1).toNatClampNeg) (((upd (σ 14) (((4 * ln) + 0).toNatClampNeg) ((σ 14 (((4 * ln) + 0).toNatClampNeg)) - z_10)) (((4 * ln) + 1).toNatClampNeg)) - z_13)) (((4 * ln) + 2).toNatClampNeg) (((upd (upd (σ 14) (((4 * ln) + 0).toNatClampNeg) ((σ 14 (((4 * ln) + 0).toNatClampNeg)) - z_10)) (((4 * ln) + 1).toNatClampNeg) (((upd (σ 14) (((4 * ln) + 0).toNatClampNeg) ((σ 14 (((4 * ln) + 0).toNatClampNeg)) - z_10)) (((4 * ln) + 1).toNatClampNeg)) - z_13)) (((4 * ln) + 2).toNatClampNeg)) - z_16)) (((4 * ln) + 3).toNatClampNeg)) - z_19)) (σ 15) (upd (upd (upd (upd (σ 16) (((6 * ln) + 0).toNatClampNeg) z_10) (((6 * ln) + 1).toNatClampNeg) z_13) (((6 * ln) + 2).toNatClampNeg) z_16) (((6 * ln) + 3).toNatClampNeg) z_19) (σ 17) (σ 18) (σ 19) (σ 20) (σ 21) (σ 22)) (j := (((4 * ln) + 3).toNatClampNeg)) hx hb hK hP hD hS 14 0 rfl rfl (kx_ix4 (kx_none hnl hn3 (by subst e_5 e_8 e_11 e_14 e_17 e_20; exact h6)) (by decide)) rfl dM_pay_107 rfl (fun H locs hP hD hS => ?_)
      refine lv_iload_n hx hb dM_pay_108 rfl (lv_at hl 3 rfl) ?_
      refine lv_iload hx hb dM_pay_109 (lv_at hl 0 rfl) ?_
      refine lv_isub hx hb dM_pay_111 ?_
      refine lv_istore_n hx hb dM_pay_112 rfl hl (by decide) rfl (fun ls hl => ?_)
      have hl : lv_has ls 7 [(3, .int ((((cents - z_10) - z_13) - z_16) - z_19)), (6, .int z_19), (5, .int ((upd (upd (upd (σ 14) (((4 * ln) + 0).toNatClampNeg) ((σ 14 (((4 * ln) + 0).toNatClampNeg)) - z_10)) (((4 * ln) + 1).toNatClampNeg) (((upd (σ 14) (((4 * ln) + 0).toNatClampNeg) ((σ 14 (((4 * ln) + 0).toNatClampNeg)) - z_10)) (((4 * ln) + 1).toNatClampNeg)) - z_13)) (((4 * ln) + 2).toNatClampNeg) (((upd (upd (σ 14) (((4 * ln) + 0).toNatClampNeg) ((σ 14 (((4 * ln) + 0).toNatClampNeg)) - z_10)) (((4 * ln) + 1).toNatClampNeg) (((upd (σ 14) (((4 * ln) + 0).toNatClampNeg) ((σ 14 (((4 * ln) + 0).toNatClampNeg)) - z_10)) (((4 * ln) + 1).toNatClampNeg)) - z_13)) (((4 * ln) + 2).toNatClampNeg)) - z_16)) (((4 * ln) + 3).toNatClampNeg))), (4, .int 3), (0, .ref (b 0)), (1, .int ln), (2, .int cents)] := hl
      refine lv_iinc (v := 4) hx hb dM_pay_113 hl (k := 3) rfl (by first | rfl | decide) (by decide) rfl (fun ls hl => ?_)
      have hl : lv_has ls 7 [(4, .int 4), (3, .int ((((cents - z_10) - z_13) - z_16) - z_19)), (6, .int z_19), (5, .int ((upd (upd (upd (σ 14) (((4 * ln) + 0).toNatClampNeg) ((σ 14 (((4 * ln) + 0).toNatClampNeg)) - z_10)) (((4 * ln) + 1).toNatClampNeg) (((upd (σ 14) (((4 * ln) + 0).toNatClampNeg) ((σ 14 (((4 * ln) + 0).toNatClampNeg)) - z_10)) (((4 * ln) + 1).toNatClampNeg)) - z_13)) (((4 * ln) + 2).toNatClampNeg) (((upd (upd (σ 14) (((4 * ln) + 0).toNatClampNeg) ((σ 14 (((4 * ln) + 0).toNatClampNeg)) - z_10)) (((4 * ln) + 1).toNatClampNeg) (((upd (σ 14) (((4 * ln) + 0).toNatClampNeg) ((σ 14 (((4 * ln) + 0).toNatClampNeg)) - z_10)) (((4 * ln) + 1).toNatClampNeg)) - z_13)) (((4 * ln) + 2).toNatClampNeg)) - z_16)) (((4 * ln) + 3).toNatClampNeg))), (0, .ref (b 0)), (1, .int ln), (2, .int cents)] := hl
      refine lv_goto (tgt := 45) hx hb dM_pay_116 (by decide) ?_
      refine lv_iload hx hb dM_pay_45 (lv_at hl 0 rfl) ?_
      refine lv_iconst (v := 4) hx hb dM_pay_47 (by decide) ?_
      refine lv_icmp_ge (tgt := 119) hx hb dM_pay_48 (by decide) (fun _ => ?_) (fun h => absurd h (by decide))
      refine lv_aload_n hx hb dM_pay_119 rfl (lv_at hl 4 rfl) ?_
      refine va_get (v := .ref (b 9)) hx hb hg hin_M hown hK hP 0 rfl rfl 9 (by decide) (hg _ gw_503) (fun _ h => h) rfl dM_pay_120 ?_
      refine lv_iload_n hx hb dM_pay_123 rfl (lv_at hl 5 rfl) ?_
      refine kw_iald (v := σ 7 ln.toNatClampNeg) (j := ln.toNatClampNeg) hx hb hK hP 7 0 rfl rfl (kx_none hnl hn3 (by subst e_5 e_8 e_11 e_14 e_17 e_20; exact h6)) rfl rfl dM_pay_124 ?_
      refine lv_aload_n hx hb dM_pay_125 rfl (lv_at hl 4 rfl) ?_
      refine va_get (v := .ref (b 18)) hx hb hg hin_M hown hK hP 0 rfl rfl 18 (by decide) (hg _ gw_512) (fun _ h => h) rfl dM_pay_126 ?_
      refine lv_bipush (v := 6) hx hb dM_pay_129 (by decide) ?_
      refine lv_iload_n hx hb dM_pay_131 rfl (lv_at hl 5 rfl) ?_
      refine lv_imul hx hb dM_pay_132 ?_
      refine lv_iconst (v := 2) hx hb dM_pay_133 (by decide) ?_
      refine lv_iadd hx hb dM_pay_134 ?_
      refine kw_iald (v := (upd (upd (upd (upd (σ 16) (((6 * ln) + 0).toNatClampNeg) z_10) (((6 * ln) + 1).toNatClampNeg) z_13) (((6 * ln) + 2).toNatClampNeg) z_16) (((6 * ln) + 3).toNatClampNeg) z_19) (((6 * ln) + 2).toNatClampNeg)) (j := (((6 * ln) + 2).toNatClampNeg)) hx hb hK hP 16 0 rfl rfl (kx_ix6 (kx_none hnl hn3 (by subst e_5 e_8 e_11 e_14 e_17 e_20; exact h6)) (by decide)) rfl rfl dM_pay_135 ?_
      refine lv_isub hx hb dM_pay_136 ?_
      refine lv_istore hx hb dM_pay_137 hl (by decide) rfl (fun ls hl => ?_)
      have hl : lv_has ls 7 [(4, .int ((σ 7 ln.toNatClampNeg) - ((upd (upd (upd (upd (σ 16) (((6 * ln) + 0).toNatClampNeg) z_10) (((6 * ln) + 1).toNatClampNeg) z_13) (((6 * ln) + 2).toNatClampNeg) z_16) (((6 * ln) + 3).toNatClampNeg) z_19) (((6 * ln) + 2).toNatClampNeg)))), (3, .int ((((cents - z_10) - z_13) - z_16) - z_19)), (6, .int z_19), (5, .int ((upd (upd (upd (σ 14) (((4 * ln) + 0).toNatClampNeg) ((σ 14 (((4 * ln) + 0).toNatClampNeg)) - z_10)) (((4 * ln) + 1).toNatClampNeg) (((upd (σ 14) (((4 * ln) + 0).toNatClampNeg) ((σ 14 (((4 * ln) + 0).toNatClampNeg)) - z_10)) (((4 * ln) + 1).toNatClampNeg)) - z_13)) (((4 * ln) + 2).toNatClampNeg) (((upd (upd (σ 14) (((4 * ln) + 0).toNatClampNeg) ((σ 14 (((4 * ln) + 0).toNatClampNeg)) - z_10)) (((4 * ln) + 1).toNatClampNeg) (((upd (σ 14) (((4 * ln) + 0).toNatClampNeg) ((σ 14 (((4 * ln) + 0).toNatClampNeg)) - z_10)) (((4 * ln) + 1).toNatClampNeg)) - z_13)) (((4 * ln) + 2).toNatClampNeg)) - z_16)) (((4 * ln) + 3).toNatClampNeg))), (0, .ref (b 0)), (1, .int ln), (2, .int cents)] := hl
      refine lv_iload_n hx hb dM_pay_139 rfl (lv_at hl 1 rfl) ?_
      refine lv_iload hx hb dM_pay_140 (lv_at hl 0 rfl) ?_
      refine kw_diamond (c9 := ((σ 7 ln.toNatClampNeg) - ((upd (upd (upd (upd (σ 16) (((6 * ln) + 0).toNatClampNeg) z_10) (((6 * ln) + 1).toNatClampNeg) z_13) (((6 * ln) + 2).toNatClampNeg) z_16) (((6 * ln) + 3).toNatClampNeg) z_19) (((6 * ln) + 2).toNatClampNeg))) ≤ ((((cents - z_10) - z_13) - z_16) - z_19)) (x := (σ 7 ln.toNatClampNeg) - ((upd (upd (upd (upd (σ 16) (((6 * ln) + 0).toNatClampNeg) z_10) (((6 * ln) + 1).toNatClampNeg) z_13) (((6 * ln) + 2).toNatClampNeg) z_16) (((6 * ln) + 3).toNatClampNeg) z_19) (((6 * ln) + 2).toNatClampNeg))) (y := (((cents - z_10) - z_13) - z_16) - z_19) (g := fun z => F0 m 151 ls (.int z :: [])) (fun jt jf => ?_) (fun z_22 e_23 => ?_)
      · skip
        refine lv_icmp_ge (tgt := 149) hx hb dM_pay_142 (by decide) (fun h24 => ?_) (fun h24 => ?_)
        · skip
          refine lv_iload hx hb dM_pay_149 (lv_at hl 0 rfl) ?_
          exact jt h24
        · skip
          refine lv_iload_n hx hb dM_pay_145 rfl (lv_at hl 1 rfl) ?_
          refine lv_goto (tgt := 151) hx hb dM_pay_146 (by decide) ?_
          exact jf h24
      replace e_23 : aM_pay_z_22 σ ln cents = z_22 := by subst e_5 e_8 e_11 e_14 e_17 e_20; exact e_23
      refine lv_istore hx hb dM_pay_151 hl (by decide) rfl (fun ls hl => ?_)
      have hl : lv_has ls 7 [(5, .int z_22), (4, .int ((σ 7 ln.toNatClampNeg) - ((upd (upd (upd (upd (σ 16) (((6 * ln) + 0).toNatClampNeg) z_10) (((6 * ln) + 1).toNatClampNeg) z_13) (((6 * ln) + 2).toNatClampNeg) z_16) (((6 * ln) + 3).toNatClampNeg) z_19) (((6 * ln) + 2).toNatClampNeg)))), (3, .int ((((cents - z_10) - z_13) - z_16) - z_19)), (6, .int z_19), (0, .ref (b 0)), (1, .int ln), (2, .int cents)] := hl
      refine lv_aload_n hx hb dM_pay_153 rfl (lv_at hl 4 rfl) ?_
      refine va_get (v := .ref (b 18)) hx hb hg hin_M hown hK hP 0 rfl rfl 18 (by decide) (hg _ gw_512) (fun _ h => h) rfl dM_pay_154 ?_
      refine lv_bipush (v := 6) hx hb dM_pay_157 (by decide) ?_
      refine lv_iload_n hx hb dM_pay_159 rfl (lv_at hl 5 rfl) ?_
      refine lv_imul hx hb dM_pay_160 ?_
      refine lv_iconst (v := 4) hx hb dM_pay_161 (by decide) ?_
      refine lv_iadd hx hb dM_pay_162 ?_
      refine lv_iload hx hb dM_pay_163 (lv_at hl 0 rfl) ?_
      refine kw_iast (w' := lm G b 0 (σ 0 1) (σ 0 2) u_1 u_2 u_3 (σ 1) (σ 2) (σ 3) (σ 4) (σ 5) (σ 6) (σ 7) (σ 8) (σ 9) (σ 10) (σ 11) (σ 12) (σ 13) (upd (upd (upd (upd (σ 14) (((4 * ln) + 0).toNatClampNeg) ((σ 14 (((4 * ln) + 0).toNatClampNeg)) - z_10)) (((4 * ln) + 1).toNatClampNeg) (((upd (σ 14) (((4 * ln) + 0).toNatClampNeg) ((σ 14 (((4 * ln) + 0).toNatClampNeg)) - z_10)) (((4 * ln) + 1).toNatClampNeg)) - z_13)) (((4 * ln) + 2).toNatClampNeg) (((upd (upd (σ 14) (((4 * ln) + 0).toNatClampNeg) ((σ 14 (((4 * ln) + 0).toNatClampNeg)) - z_10)) (((4 * ln) + 1).toNatClampNeg) (((upd (σ 14) (((4 * ln) + 0).toNatClampNeg) ((σ 14 (((4 * ln) + 0).toNatClampNeg)) - z_10)) (((4 * ln) + 1).toNatClampNeg)) - z_13)) (((4 * ln) + 2).toNatClampNeg)) - z_16)) (((4 * ln) + 3).toNatClampNeg) (((upd (upd (upd (σ 14) (((4 * ln) + 0).toNatClampNeg) ((σ 14 (((4 * ln) + 0).toNatClampNeg)) - z_10)) (((4 * ln) + 1).toNatClampNeg) (((upd (σ 14) (((4 * ln) + 0).toNatClampNeg) ((σ 14 (((4 * ln) + 0).toNatClampNeg)) - z_10)) (((4 * ln) + 1).toNatClampNeg)) - z_13)) (((4 * ln) + 2).toNatClampNeg) (((upd (upd (σ 14) (((4 * ln) + 0).toNatClampNeg) ((σ 14 (((4 * ln) + 0).toNatClampNeg)) - z_10)) (((4 * ln) + 1).toNatClampNeg) (((upd (σ 14) (((4 * ln) + 0).toNatClampNeg) ((σ 14 (((4 * ln) + 0).toNatClampNeg)) - z_10)) (((4 * ln) + 1).toNatClampNeg)) - z_13)) (((4 * ln) + 2).toNatClampNeg)) - z_16)) (((4 * ln) + 3).toNatClampNeg)) - z_19)) (σ 15) (upd (upd (upd (upd (upd (σ 16) (((6 * ln) + 0).toNatClampNeg) z_10) (((6 * ln) + 1).toNatClampNeg) z_13) (((6 * ln) + 2).toNatClampNeg) z_16) (((6 * ln) + 3).toNatClampNeg) z_19) (((6 * ln) + 4).toNatClampNeg) z_22) (σ 17) (σ 18) (σ 19) (σ 20) (σ 21) (σ 22)) (j := (((6 * ln) + 4).toNatClampNeg)) hx hb hK hP hD hS 16 0 rfl rfl (kx_ix6 (kx_none hnl hn3 (by subst e_5 e_8 e_11 e_14 e_17 e_20 e_23; exact h6)) (by decide)) rfl dM_pay_165 rfl (fun H locs hP hD hS => ?_)
      refine lv_aload_n hx hb dM_pay_166 rfl (lv_at hl 4 rfl) ?_
      refine va_get (v := .ref (b 18)) hx hb hg hin_M hown hK hP 0 rfl rfl 18 (by decide) (hg _ gw_512) (fun _ h => h) rfl dM_pay_167 ?_
      refine lv_bipush (v := 6) hx hb dM_pay_170 (by decide) ?_
      refine lv_iload_n hx hb dM_pay_172 rfl (lv_at hl 5 rfl) ?_
      refine lv_imul hx hb dM_pay_173 ?_
      refine lv_iconst (v := 5) hx hb dM_pay_174 (by decide) ?_
      refine lv_iadd hx hb dM_pay_175 ?_
      refine lv_iload_n hx hb dM_pay_176 rfl (lv_at hl 2 rfl) ?_
      refine lv_iload hx hb dM_pay_177 (lv_at hl 0 rfl) ?_
      refine lv_isub hx hb dM_pay_179 ?_
      refine kw_iast (w' := lm G b 0 (σ 0 1) (σ 0 2) u_1 u_2 u_3 (σ 1) (σ 2) (σ 3) (σ 4) (σ 5) (σ 6) (σ 7) (σ 8) (σ 9) (σ 10) (σ 11) (σ 12) (σ 13) (upd (upd (upd (upd (σ 14) (((4 * ln) + 0).toNatClampNeg) ((σ 14 (((4 * ln) + 0).toNatClampNeg)) - z_10)) (((4 * ln) + 1).toNatClampNeg) (((upd (σ 14) (((4 * ln) + 0).toNatClampNeg) ((σ 14 (((4 * ln) + 0).toNatClampNeg)) - z_10)) (((4 * ln) + 1).toNatClampNeg)) - z_13)) (((4 * ln) + 2).toNatClampNeg) (((upd (upd (σ 14) (((4 * ln) + 0).toNatClampNeg) ((σ 14 (((4 * ln) + 0).toNatClampNeg)) - z_10)) (((4 * ln) + 1).toNatClampNeg) (((upd (σ 14) (((4 * ln) + 0).toNatClampNeg) ((σ 14 (((4 * ln) + 0).toNatClampNeg)) - z_10)) (((4 * ln) + 1).toNatClampNeg)) - z_13)) (((4 * ln) + 2).toNatClampNeg)) - z_16)) (((4 * ln) + 3).toNatClampNeg) (((upd (upd (upd (σ 14) (((4 * ln) + 0).toNatClampNeg) ((σ 14 (((4 * ln) + 0).toNatClampNeg)) - z_10)) (((4 * ln) + 1).toNatClampNeg) (((upd (σ 14) (((4 * ln) + 0).toNatClampNeg) ((σ 14 (((4 * ln) + 0).toNatClampNeg)) - z_10)) (((4 * ln) + 1).toNatClampNeg)) - z_13)) (((4 * ln) + 2).toNatClampNeg) (((upd (upd (σ 14) (((4 * ln) + 0).toNatClampNeg) ((σ 14 (((4 * ln) + 0).toNatClampNeg)) - z_10)) (((4 * ln) + 1).toNatClampNeg) (((upd (σ 14) (((4 * ln) + 0).toNatClampNeg) ((σ 14 (((4 * ln) + 0).toNatClampNeg)) - z_10)) (((4 * ln) + 1).toNatClampNeg)) - z_13)) (((4 * ln) + 2).toNatClampNeg)) - z_16)) (((4 * ln) + 3).toNatClampNeg)) - z_19)) (σ 15) (upd (upd (upd (upd (upd (upd (σ 16) (((6 * ln) + 0).toNatClampNeg) z_10) (((6 * ln) + 1).toNatClampNeg) z_13) (((6 * ln) + 2).toNatClampNeg) z_16) (((6 * ln) + 3).toNatClampNeg) z_19) (((6 * ln) + 4).toNatClampNeg) z_22) (((6 * ln) + 5).toNatClampNeg) (((((cents - z_10) - z_13) - z_16) - z_19) - z_22)) (σ 17) (σ 18) (σ 19) (σ 20) (σ 21) (σ 22)) (j := (((6 * ln) + 5).toNatClampNeg)) hx hb hK hP hD hS 16 0 rfl rfl (kx_ix6 (kx_none hnl hn3 (by subst e_5 e_8 e_11 e_14 e_17 e_20 e_23; exact h6)) (by decide)) rfl dM_pay_180 rfl (fun H locs hP hD hS => ?_)
      refine lv_aload_n hx hb dM_pay_181 rfl (lv_at hl 4 rfl) ?_
      refine va_get (v := .ref (b 17)) hx hb hg hin_M hown hK hP 0 rfl rfl 17 (by decide) (hg _ gw_511) (fun _ h => h) rfl dM_pay_182 ?_
      refine lv_iload_n hx hb dM_pay_185 rfl (lv_at hl 5 rfl) ?_
      refine lv_iconst (v := 1) hx hb dM_pay_186 (by decide) ?_
      refine kw_zast (w' := lm G b 0 (σ 0 1) (σ 0 2) u_1 u_2 u_3 (σ 1) (σ 2) (σ 3) (σ 4) (σ 5) (σ 6) (σ 7) (σ 8) (σ 9) (σ 10) (σ 11) (σ 12) (σ 13) (upd (upd (upd (upd (σ 14) (((4 * ln) + 0).toNatClampNeg) ((σ 14 (((4 * ln) + 0).toNatClampNeg)) - z_10)) (((4 * ln) + 1).toNatClampNeg) (((upd (σ 14) (((4 * ln) + 0).toNatClampNeg) ((σ 14 (((4 * ln) + 0).toNatClampNeg)) - z_10)) (((4 * ln) + 1).toNatClampNeg)) - z_13)) (((4 * ln) + 2).toNatClampNeg) (((upd (upd (σ 14) (((4 * ln) + 0).toNatClampNeg) ((σ 14 (((4 * ln) + 0).toNatClampNeg)) - z_10)) (((4 * ln) + 1).toNatClampNeg) (((upd (σ 14) (((4 * ln) + 0).toNatClampNeg) ((σ 14 (((4 * ln) + 0).toNatClampNeg)) - z_10)) (((4 * ln) + 1).toNatClampNeg)) - z_13)) (((4 * ln) + 2).toNatClampNeg)) - z_16)) (((4 * ln) + 3).toNatClampNeg) (((upd (upd (upd (σ 14) (((4 * ln) + 0).toNatClampNeg) ((σ 14 (((4 * ln) + 0).toNatClampNeg)) - z_10)) (((4 * ln) + 1).toNatClampNeg) (((upd (σ 14) (((4 * ln) + 0).toNatClampNeg) ((σ 14 (((4 * ln) + 0).toNatClampNeg)) - z_10)) (((4 * ln) + 1).toNatClampNeg)) - z_13)) (((4 * ln) + 2).toNatClampNeg) (((upd (upd (σ 14) (((4 * ln) + 0).toNatClampNeg) ((σ 14 (((4 * ln) + 0).toNatClampNeg)) - z_10)) (((4 * ln) + 1).toNatClampNeg) (((upd (σ 14) (((4 * ln) + 0).toNatClampNeg) ((σ 14 (((4 * ln) + 0).toNatClampNeg)) - z_10)) (((4 * ln) + 1).toNatClampNeg)) - z_13)) (((4 * ln) + 2).toNatClampNeg)) - z_16)) (((4 * ln) + 3).toNatClampNeg)) - z_19)) (upd (σ 15) ln.toNatClampNeg 1) (upd (upd (upd (upd (upd (upd (σ 16) (((6 * ln) + 0).toNatClampNeg) z_10) (((6 * ln) + 1).toNatClampNeg) z_13) (((6 * ln) + 2).toNatClampNeg) z_16) (((6 * ln) + 3).toNatClampNeg) z_19) (((6 * ln) + 4).toNatClampNeg) z_22) (((6 * ln) + 5).toNatClampNeg) (((((cents - z_10) - z_13) - z_16) - z_19) - z_22)) (σ 17) (σ 18) (σ 19) (σ 20) (σ 21) (σ 22)) (j := ln.toNatClampNeg) hx hb hK hP hD hS 15 1 rfl rfl (kx_none hnl hn3 (by subst e_5 e_8 e_11 e_14 e_17 e_20 e_23; exact h6)) rfl (by decide) dM_pay_187 rfl (fun H locs hP hD hS => ?_)
      refine lv_iload hx hb dM_pay_188 (lv_at hl 0 rfl) ?_
      refine lv_aload_n hx hb dM_pay_190 rfl (lv_at hl 4 rfl) ?_
      refine va_get (v := .ref (b 18)) hx hb hg hin_M hown hK hP 0 rfl rfl 18 (by decide) (hg _ gw_512) (fun _ h => h) rfl dM_pay_191 ?_
      refine lv_bipush (v := 6) hx hb dM_pay_194 (by decide) ?_
      refine lv_iload_n hx hb dM_pay_196 rfl (lv_at hl 5 rfl) ?_
      refine lv_imul hx hb dM_pay_197 ?_
      refine lv_iconst (v := 2) hx hb dM_pay_198 (by decide) ?_
      refine lv_iadd hx hb dM_pay_199 ?_
      refine kw_iald (v := (upd (upd (upd (upd (upd (upd (σ 16) (((6 * ln) + 0).toNatClampNeg) z_10) (((6 * ln) + 1).toNatClampNeg) z_13) (((6 * ln) + 2).toNatClampNeg) z_16) (((6 * ln) + 3).toNatClampNeg) z_19) (((6 * ln) + 4).toNatClampNeg) z_22) (((6 * ln) + 5).toNatClampNeg) (((((cents - z_10) - z_13) - z_16) - z_19) - z_22)) (((6 * ln) + 2).toNatClampNeg)) (j := (((6 * ln) + 2).toNatClampNeg)) hx hb hK hP 16 0 rfl rfl (kx_ix6 (kx_none hnl hn3 (by subst e_5 e_8 e_11 e_14 e_17 e_20 e_23; exact h6)) (by decide)) rfl rfl dM_pay_200 ?_
      refine lv_iadd hx hb dM_pay_201 ?_
      refine lv_if_le (tgt := 210) hx hb dM_pay_202 (by decide) (fun h25 => ?_) (fun h25 => ?_)
      · skip
        refine lv_aload_n hx hb dM_pay_210 rfl (lv_at hl 4 rfl) ?_
        refine va_get (v := .ref (b 9)) hx hb hg hin_M hown hK hP 0 rfl rfl 9 (by decide) (hg _ gw_503) (fun _ h => h) rfl dM_pay_211 ?_
        refine lv_iload_n hx hb dM_pay_214 rfl (lv_at hl 5 rfl) ?_
        refine lv_iload hx hb dM_pay_215 (lv_at hl 1 rfl) ?_
        refine lv_iload hx hb dM_pay_217 (lv_at hl 0 rfl) ?_
        refine lv_isub hx hb dM_pay_219 ?_
        refine kw_iast (w' := lm G b 0 (σ 0 1) (σ 0 2) u_1 u_2 u_3 (σ 1) (σ 2) (σ 3) (σ 4) (σ 5) (σ 6) (upd (σ 7) ln.toNatClampNeg (((σ 7 ln.toNatClampNeg) - ((upd (upd (upd (upd (σ 16) (((6 * ln) + 0).toNatClampNeg) z_10) (((6 * ln) + 1).toNatClampNeg) z_13) (((6 * ln) + 2).toNatClampNeg) z_16) (((6 * ln) + 3).toNatClampNeg) z_19) (((6 * ln) + 2).toNatClampNeg))) - z_22)) (σ 8) (σ 9) (σ 10) (σ 11) (σ 12) (σ 13) (upd (upd (upd (upd (σ 14) (((4 * ln) + 0).toNatClampNeg) ((σ 14 (((4 * ln) + 0).toNatClampNeg)) - z_10)) (((4 * ln) + 1).toNatClampNeg) (((upd (σ 14) (((4 * ln) + 0).toNatClampNeg) ((σ 14 (((4 * ln) + 0).toNatClampNeg)) - z_10)) (((4 * ln) + 1).toNatClampNeg)) - z_13)) (((4 * ln) + 2).toNatClampNeg) (((upd (upd (σ 14) (((4 * ln) + 0).toNatClampNeg) ((σ 14 (((4 * ln) + 0).toNatClampNeg)) - z_10)) (((4 * ln) + 1).toNatClampNeg) (((upd (σ 14) (((4 * ln) + 0).toNatClampNeg) ((σ 14 (((4 * ln) + 0).toNatClampNeg)) - z_10)) (((4 * ln) + 1).toNatClampNeg)) - z_13)) (((4 * ln) + 2).toNatClampNeg)) - z_16)) (((4 * ln) + 3).toNatClampNeg) (((upd (upd (upd (σ 14) (((4 * ln) + 0).toNatClampNeg) ((σ 14 (((4 * ln) + 0).toNatClampNeg)) - z_10)) (((4 * ln) + 1).toNatClampNeg) (((upd (σ 14) (((4 * ln) + 0).toNatClampNeg) ((σ 14 (((4 * ln) + 0).toNatClampNeg)) - z_10)) (((4 * ln) + 1).toNatClampNeg)) - z_13)) (((4 * ln) + 2).toNatClampNeg) (((upd (upd (σ 14) (((4 * ln) + 0).toNatClampNeg) ((σ 14 (((4 * ln) + 0).toNatClampNeg)) - z_10)) (((4 * ln) + 1).toNatClampNeg) (((upd (σ 14) (((4 * ln) + 0).toNatClampNeg) ((σ 14 (((4 * ln) + 0).toNatClampNeg)) - z_10)) (((4 * ln) + 1).toNatClampNeg)) - z_13)) (((4 * ln) + 2).toNatClampNeg)) - z_16)) (((4 * ln) + 3).toNatClampNeg)) - z_19)) (upd (σ 15) ln.toNatClampNeg 1) (upd (upd (upd (upd (upd (upd (σ 16) (((6 * ln) + 0).toNatClampNeg) z_10) (((6 * ln) + 1).toNatClampNeg) z_13) (((6 * ln) + 2).toNatClampNeg) z_16) (((6 * ln) + 3).toNatClampNeg) z_19) (((6 * ln) + 4).toNatClampNeg) z_22) (((6 * ln) + 5).toNatClampNeg) (((((cents - z_10) - z_13) - z_16) - z_19) - z_22)) (σ 17) (σ 18) (σ 19) (σ 20) (σ 21) (σ 22)) (j := ln.toNatClampNeg) hx hb hK hP hD hS 7 0 rfl rfl (kx_none hnl hn3 (by subst e_5 e_8 e_11 e_14 e_17 e_20 e_23; exact h6)) rfl dM_pay_220 rfl (fun H locs hP hD hS => ?_)
        refine lv_aload_n hx hb dM_pay_221 rfl (lv_at hl 4 rfl) ?_
        refine va_get (v := .ref (b 13)) hx hb hg hin_M hown hK hP 0 rfl rfl 13 (by decide) (hg _ gw_507) (fun _ h => h) rfl dM_pay_222 ?_
        refine lv_iload_n hx hb dM_pay_225 rfl (lv_at hl 5 rfl) ?_
        refine lv_aload_n hx hb dM_pay_226 rfl (lv_at hl 4 rfl) ?_
        refine va_get (v := .ref (b 13)) hx hb hg hin_M hown hK hP 0 rfl rfl 13 (by decide) (hg _ gw_507) (fun _ h => h) rfl dM_pay_227 ?_
        refine lv_iload_n hx hb dM_pay_230 rfl (lv_at hl 5 rfl) ?_
        refine kw_iald (v := σ 11 ln.toNatClampNeg) (j := ln.toNatClampNeg) hx hb hK hP 11 0 rfl rfl (kx_none hnl hn3 (by subst e_5 e_8 e_11 e_14 e_17 e_20 e_23; exact h6)) rfl rfl dM_pay_231 ?_
        refine lv_aload_n hx hb dM_pay_232 rfl (lv_at hl 4 rfl) ?_
        refine va_get (v := .ref (b 18)) hx hb hg hin_M hown hK hP 0 rfl rfl 18 (by decide) (hg _ gw_512) (fun _ h => h) rfl dM_pay_233 ?_
        refine lv_bipush (v := 6) hx hb dM_pay_236 (by decide) ?_
        refine lv_iload_n hx hb dM_pay_238 rfl (lv_at hl 5 rfl) ?_
        refine lv_imul hx hb dM_pay_239 ?_
        refine lv_iconst (v := 3) hx hb dM_pay_240 (by decide) ?_
        refine lv_iadd hx hb dM_pay_241 ?_
        refine kw_iald (v := (upd (upd (upd (upd (upd (upd (σ 16) (((6 * ln) + 0).toNatClampNeg) z_10) (((6 * ln) + 1).toNatClampNeg) z_13) (((6 * ln) + 2).toNatClampNeg) z_16) (((6 * ln) + 3).toNatClampNeg) z_19) (((6 * ln) + 4).toNatClampNeg) z_22) (((6 * ln) + 5).toNatClampNeg) (((((cents - z_10) - z_13) - z_16) - z_19) - z_22)) (((6 * ln) + 3).toNatClampNeg)) (j := (((6 * ln) + 3).toNatClampNeg)) hx hb hK hP 16 0 rfl rfl (kx_ix6 (kx_none hnl hn3 (by subst e_5 e_8 e_11 e_14 e_17 e_20 e_23; exact h6)) (by decide)) rfl rfl dM_pay_242 ?_
        refine lv_iadd hx hb dM_pay_243 ?_
        refine kw_iast (w' := lm G b 0 (σ 0 1) (σ 0 2) u_1 u_2 u_3 (σ 1) (σ 2) (σ 3) (σ 4) (σ 5) (σ 6) (upd (σ 7) ln.toNatClampNeg (((σ 7 ln.toNatClampNeg) - ((upd (upd (upd (upd (σ 16) (((6 * ln) + 0).toNatClampNeg) z_10) (((6 * ln) + 1).toNatClampNeg) z_13) (((6 * ln) + 2).toNatClampNeg) z_16) (((6 * ln) + 3).toNatClampNeg) z_19) (((6 * ln) + 2).toNatClampNeg))) - z_22)) (σ 8) (σ 9) (σ 10) (upd (σ 11) ln.toNatClampNeg ((σ 11 ln.toNatClampNeg) + ((upd (upd (upd (upd (upd (upd (σ 16) (((6 * ln) + 0).toNatClampNeg) z_10) (((6 * ln) + 1).toNatClampNeg) z_13) (((6 * ln) + 2).toNatClampNeg) z_16) (((6 * ln) + 3).toNatClampNeg) z_19) (((6 * ln) + 4).toNatClampNeg) z_22) (((6 * ln) + 5).toNatClampNeg) (((((cents - z_10) - z_13) - z_16) - z_19) - z_22)) (((6 * ln) + 3).toNatClampNeg)))) (σ 12) (σ 13) (upd (upd (upd (upd (σ 14) (((4 * ln) + 0).toNatClampNeg) ((σ 14 (((4 * ln) + 0).toNatClampNeg)) - z_10)) (((4 * ln) + 1).toNatClampNeg) (((upd (σ 14) (((4 * ln) + 0).toNatClampNeg) ((σ 14 (((4 * ln) + 0).toNatClampNeg)) - z_10)) (((4 * ln) + 1).toNatClampNeg)) - z_13)) (((4 * ln) + 2).toNatClampNeg) (((upd (upd (σ 14) (((4 * ln) + 0).toNatClampNeg) ((σ 14 (((4 * ln) + 0).toNatClampNeg)) - z_10)) (((4 * ln) + 1).toNatClampNeg) (((upd (σ 14) (((4 * ln) + 0).toNatClampNeg) ((σ 14 (((4 * ln) + 0).toNatClampNeg)) - z_10)) (((4 * ln) + 1).toNatClampNeg)) - z_13)) (((4 * ln) + 2).toNatClampNeg)) - z_16)) (((4 * ln) + 3).toNatClampNeg) (((upd (upd (upd (σ 14) (((4 * ln) + 0).toNatClampNeg) ((σ 14 (((4 * ln) + 0).toNatClampNeg)) - z_10)) (((4 * ln) + 1).toNatClampNeg) (((upd (σ 14) (((4 * ln) + 0).toNatClampNeg) ((σ 14 (((4 * ln) + 0).toNatClampNeg)) - z_10)) (((4 * ln) + 1).toNatClampNeg)) - z_13)) (((4 * ln) + 2).toNatClampNeg) (((upd (upd (σ 14) (((4 * ln) + 0).toNatClampNeg) ((σ 14 (((4 * ln) + 0).toNatClampNeg)) - z_10)) (((4 * ln) + 1).toNatClampNeg) (((upd (σ 14) (((4 * ln) + 0).toNatClampNeg) ((σ 14 (((4 * ln) + 0).toNatClampNeg)) - z_10)) (((4 * ln) + 1).toNatClampNeg)) - z_13)) (((4 * ln) + 2).toNatClampNeg)) - z_16)) (((4 * ln) + 3).toNatClampNeg)) - z_19)) (upd (σ 15) ln.toNatClampNeg 1) (upd (upd (upd (upd (upd (upd (σ 16) (((6 * ln) + 0).toNatClampNeg) z_10) (((6 * ln) + 1).toNatClampNeg) z_13) (((6 * ln) + 2).toNatClampNeg) z_16) (((6 * ln) + 3).toNatClampNeg) z_19) (((6 * ln) + 4).toNatClampNeg) z_22) (((6 * ln) + 5).toNatClampNeg) (((((cents - z_10) - z_13) - z_16) - z_19) - z_22)) (σ 17) (σ 18) (σ 19) (σ 20) (σ 21) (σ 22)) (j := ln.toNatClampNeg) hx hb hK hP hD hS 11 0 rfl rfl (kx_none hnl hn3 (by subst e_5 e_8 e_11 e_14 e_17 e_20 e_23; exact h6)) rfl dM_pay_244 rfl (fun H locs hP hD hS => ?_)
        refine lv_iload hx hb dM_pay_245 (lv_at hl 0 rfl) ?_
        refine lv_if_le (tgt := 281) hx hb dM_pay_247 (by decide) (fun h26 => ?_) (fun h26 => ?_)
        · skip
          refine lv_iload_n hx hb dM_pay_281 rfl (lv_at hl 2 rfl) ?_
          refine lv_iload hx hb dM_pay_282 (lv_at hl 0 rfl) ?_
          refine lv_isub hx hb dM_pay_284 ?_
          have hk9 : kM_pay σ ln cents = (((((cents - z_10) - z_13) - z_16) - z_19) - z_22, mkM 0 (σ 0 1) (σ 0 2) (σ 0 3) (σ 0 4) (σ 0 5) (σ 1) (σ 2) (σ 3) (σ 4) (σ 5) (σ 6) (upd (σ 7) ln.toNatClampNeg (((σ 7 ln.toNatClampNeg) - ((upd (upd (upd (upd (σ 16) (((6 * ln) + 0).toNatClampNeg) z_10) (((6 * ln) + 1).toNatClampNeg) z_13) (((6 * ln) + 2).toNatClampNeg) z_16) (((6 * ln) + 3).toNatClampNeg) z_19) (((6 * ln) + 2).toNatClampNeg))) - z_22)) (σ 8) (σ 9) (σ 10) (upd (σ 11) ln.toNatClampNeg ((σ 11 ln.toNatClampNeg) + ((upd (upd (upd (upd (upd (upd (σ 16) (((6 * ln) + 0).toNatClampNeg) z_10) (((6 * ln) + 1).toNatClampNeg) z_13) (((6 * ln) + 2).toNatClampNeg) z_16) (((6 * ln) + 3).toNatClampNeg) z_19) (((6 * ln) + 4).toNatClampNeg) z_22) (((6 * ln) + 5).toNatClampNeg) (((((cents - z_10) - z_13) - z_16) - z_19) - z_22)) (((6 * ln) + 3).toNatClampNeg)))) (σ 12) (σ 13) (upd (upd (upd (upd (σ 14) (((4 * ln) + 0).toNatClampNeg) ((σ 14 (((4 * ln) + 0).toNatClampNeg)) - z_10)) (((4 * ln) + 1).toNatClampNeg) (((upd (σ 14) (((4 * ln) + 0).toNatClampNeg) ((σ 14 (((4 * ln) + 0).toNatClampNeg)) - z_10)) (((4 * ln) + 1).toNatClampNeg)) - z_13)) (((4 * ln) + 2).toNatClampNeg) (((upd (upd (σ 14) (((4 * ln) + 0).toNatClampNeg) ((σ 14 (((4 * ln) + 0).toNatClampNeg)) - z_10)) (((4 * ln) + 1).toNatClampNeg) (((upd (σ 14) (((4 * ln) + 0).toNatClampNeg) ((σ 14 (((4 * ln) + 0).toNatClampNeg)) - z_10)) (((4 * ln) + 1).toNatClampNeg)) - z_13)) (((4 * ln) + 2).toNatClampNeg)) - z_16)) (((4 * ln) + 3).toNatClampNeg) (((upd (upd (upd (σ 14) (((4 * ln) + 0).toNatClampNeg) ((σ 14 (((4 * ln) + 0).toNatClampNeg)) - z_10)) (((4 * ln) + 1).toNatClampNeg) (((upd (σ 14) (((4 * ln) + 0).toNatClampNeg) ((σ 14 (((4 * ln) + 0).toNatClampNeg)) - z_10)) (((4 * ln) + 1).toNatClampNeg)) - z_13)) (((4 * ln) + 2).toNatClampNeg) (((upd (upd (σ 14) (((4 * ln) + 0).toNatClampNeg) ((σ 14 (((4 * ln) + 0).toNatClampNeg)) - z_10)) (((4 * ln) + 1).toNatClampNeg) (((upd (σ 14) (((4 * ln) + 0).toNatClampNeg) ((σ 14 (((4 * ln) + 0).toNatClampNeg)) - z_10)) (((4 * ln) + 1).toNatClampNeg)) - z_13)) (((4 * ln) + 2).toNatClampNeg)) - z_16)) (((4 * ln) + 3).toNatClampNeg)) - z_19)) (upd (σ 15) ln.toNatClampNeg 1) (upd (upd (upd (upd (upd (upd (σ 16) (((6 * ln) + 0).toNatClampNeg) z_10) (((6 * ln) + 1).toNatClampNeg) z_13) (((6 * ln) + 2).toNatClampNeg) z_16) (((6 * ln) + 3).toNatClampNeg) z_19) (((6 * ln) + 4).toNatClampNeg) z_22) (((6 * ln) + 5).toNatClampNeg) (((((cents - z_10) - z_13) - z_16) - z_19) - z_22)) (σ 17) (σ 18) (σ 19) (σ 20) (σ 21) (σ 22)) := by subst e_5 e_8 e_11 e_14 e_17 e_20 e_23; unfold kM_pay; rw [if_pos h6, if_neg h9, if_pos h25, if_pos h26]
          exact kx_iret hx hb hr hlocks hK hP hD hS (by rw [hk9]) (u := (u_1, u_2, u_3)) (by rw [hk9] <;> rfl) dM_pay_285
        · skip
          refine lv_aload_n hx hb dM_pay_250 rfl (lv_at hl 4 rfl) ?_
          refine va_get (v := .ref (b 8)) hx hb hg hin_M hown hK hP 0 rfl rfl 8 (by decide) (hg _ gw_502) (fun _ h => h) rfl dM_pay_251 ?_
          refine lv_iload_n hx hb dM_pay_254 rfl (lv_at hl 5 rfl) ?_
          refine kw_zald (v := σ 6 ln.toNatClampNeg) (j := ln.toNatClampNeg) hx hb hK hP 6 1 rfl rfl (kx_none hnl hn3 (by subst e_5 e_8 e_11 e_14 e_17 e_20 e_23; exact h6)) rfl rfl dM_pay_255 ?_
          refine lv_if_ne (tgt := 281) hx hb dM_pay_256 (by decide) (fun h27 => ?_) (fun h27 => ?_)
          · skip
            refine lv_iload_n hx hb dM_pay_281 rfl (lv_at hl 2 rfl) ?_
            refine lv_iload hx hb dM_pay_282 (lv_at hl 0 rfl) ?_
            refine lv_isub hx hb dM_pay_284 ?_
            have hk9 : kM_pay σ ln cents = (((((cents - z_10) - z_13) - z_16) - z_19) - z_22, mkM 0 (σ 0 1) (σ 0 2) (σ 0 3) (σ 0 4) (σ 0 5) (σ 1) (σ 2) (σ 3) (σ 4) (σ 5) (σ 6) (upd (σ 7) ln.toNatClampNeg (((σ 7 ln.toNatClampNeg) - ((upd (upd (upd (upd (σ 16) (((6 * ln) + 0).toNatClampNeg) z_10) (((6 * ln) + 1).toNatClampNeg) z_13) (((6 * ln) + 2).toNatClampNeg) z_16) (((6 * ln) + 3).toNatClampNeg) z_19) (((6 * ln) + 2).toNatClampNeg))) - z_22)) (σ 8) (σ 9) (σ 10) (upd (σ 11) ln.toNatClampNeg ((σ 11 ln.toNatClampNeg) + ((upd (upd (upd (upd (upd (upd (σ 16) (((6 * ln) + 0).toNatClampNeg) z_10) (((6 * ln) + 1).toNatClampNeg) z_13) (((6 * ln) + 2).toNatClampNeg) z_16) (((6 * ln) + 3).toNatClampNeg) z_19) (((6 * ln) + 4).toNatClampNeg) z_22) (((6 * ln) + 5).toNatClampNeg) (((((cents - z_10) - z_13) - z_16) - z_19) - z_22)) (((6 * ln) + 3).toNatClampNeg)))) (σ 12) (σ 13) (upd (upd (upd (upd (σ 14) (((4 * ln) + 0).toNatClampNeg) ((σ 14 (((4 * ln) + 0).toNatClampNeg)) - z_10)) (((4 * ln) + 1).toNatClampNeg) (((upd (σ 14) (((4 * ln) + 0).toNatClampNeg) ((σ 14 (((4 * ln) + 0).toNatClampNeg)) - z_10)) (((4 * ln) + 1).toNatClampNeg)) - z_13)) (((4 * ln) + 2).toNatClampNeg) (((upd (upd (σ 14) (((4 * ln) + 0).toNatClampNeg) ((σ 14 (((4 * ln) + 0).toNatClampNeg)) - z_10)) (((4 * ln) + 1).toNatClampNeg) (((upd (σ 14) (((4 * ln) + 0).toNatClampNeg) ((σ 14 (((4 * ln) + 0).toNatClampNeg)) - z_10)) (((4 * ln) + 1).toNatClampNeg)) - z_13)) (((4 * ln) + 2).toNatClampNeg)) - z_16)) (((4 * ln) + 3).toNatClampNeg) (((upd (upd (upd (σ 14) (((4 * ln) + 0).toNatClampNeg) ((σ 14 (((4 * ln) + 0).toNatClampNeg)) - z_10)) (((4 * ln) + 1).toNatClampNeg) (((upd (σ 14) (((4 * ln) + 0).toNatClampNeg) ((σ 14 (((4 * ln) + 0).toNatClampNeg)) - z_10)) (((4 * ln) + 1).toNatClampNeg)) - z_13)) (((4 * ln) + 2).toNatClampNeg) (((upd (upd (σ 14) (((4 * ln) + 0).toNatClampNeg) ((σ 14 (((4 * ln) + 0).toNatClampNeg)) - z_10)) (((4 * ln) + 1).toNatClampNeg) (((upd (σ 14) (((4 * ln) + 0).toNatClampNeg) ((σ 14 (((4 * ln) + 0).toNatClampNeg)) - z_10)) (((4 * ln) + 1).toNatClampNeg)) - z_13)) (((4 * ln) + 2).toNatClampNeg)) - z_16)) (((4 * ln) + 3).toNatClampNeg)) - z_19)) (upd (σ 15) ln.toNatClampNeg 1) (upd (upd (upd (upd (upd (upd (σ 16) (((6 * ln) + 0).toNatClampNeg) z_10) (((6 * ln) + 1).toNatClampNeg) z_13) (((6 * ln) + 2).toNatClampNeg) z_16) (((6 * ln) + 3).toNatClampNeg) z_19) (((6 * ln) + 4).toNatClampNeg) z_22) (((6 * ln) + 5).toNatClampNeg) (((((cents - z_10) - z_13) - z_16) - z_19) - z_22)) (σ 17) (σ 18) (σ 19) (σ 20) (σ 21) (σ 22)) := by subst e_5 e_8 e_11 e_14 e_17 e_20 e_23; unfold kM_pay; rw [if_pos h6, if_neg h9, if_pos h25, if_neg h26, if_neg h27]
            exact kx_iret hx hb hr hlocks hK hP hD hS (by rw [hk9]) (u := (u_1, u_2, u_3)) (by rw [hk9] <;> rfl) dM_pay_285
          · skip
            refine lv_aload_n hx hb dM_pay_259 rfl (lv_at hl 4 rfl) ?_
            refine lv_iload_n hx hb dM_pay_260 rfl (lv_at hl 5 rfl) ?_
            refine lv_aload_n hx hb dM_pay_261 rfl (lv_at hl 4 rfl) ?_
            refine va_get (v := .ref (b 9)) hx hb hg hin_M hown hK hP 0 rfl rfl 9 (by decide) (hg _ gw_503) (fun _ h => h) rfl dM_pay_262 ?_
            refine lv_iload_n hx hb dM_pay_265 rfl (lv_at hl 5 rfl) ?_
            refine kw_iald (v := (upd (σ 7) ln.toNatClampNeg (((σ 7 ln.toNatClampNeg) - ((upd (upd (upd (upd (σ 16) (((6 * ln) + 0).toNatClampNeg) z_10) (((6 * ln) + 1).toNatClampNeg) z_13) (((6 * ln) + 2).toNatClampNeg) z_16) (((6 * ln) + 3).toNatClampNeg) z_19) (((6 * ln) + 2).toNatClampNeg))) - z_22)) ln.toNatClampNeg) (j := ln.toNatClampNeg) hx hb hK hP 7 0 rfl rfl (kx_none hnl hn3 (by subst e_5 e_8 e_11 e_14 e_17 e_20 e_23; exact h6)) rfl rfl dM_pay_266 ?_
            refine lv_aload_n hx hb dM_pay_267 rfl (lv_at hl 4 rfl) ?_
            refine va_get (v := .ref (b 16)) hx hb hg hin_M hown hK hP 0 rfl rfl 16 (by decide) (hg _ gw_510) (fun _ h => h) rfl dM_pay_268 ?_
            refine lv_iconst (v := 4) hx hb dM_pay_271 (by decide) ?_
            refine lv_iload_n hx hb dM_pay_272 rfl (lv_at hl 5 rfl) ?_
            refine lv_imul hx hb dM_pay_273 ?_
            refine lv_iconst (v := 2) hx hb dM_pay_274 (by decide) ?_
            refine lv_iadd hx hb dM_pay_275 ?_
            refine kw_iald (v := (upd (upd (upd (upd (σ 14) (((4 * ln) + 0).toNatClampNeg) ((σ 14 (((4 * ln) + 0).toNatClampNeg)) - z_10)) (((4 * ln) + 1).toNatClampNeg) (((upd (σ 14) (((4 * ln) + 0).toNatClampNeg) ((σ 14 (((4 * ln) + 0).toNatClampNeg)) - z_10)) (((4 * ln) + 1).toNatClampNeg)) - z_13)) (((4 * ln) + 2).toNatClampNeg) (((upd (upd (σ 14) (((4 * ln) + 0).toNatClampNeg) ((σ 14 (((4 * ln) + 0).toNatClampNeg)) - z_10)) (((4 * ln) + 1).toNatClampNeg) (((upd (σ 14) (((4 * ln) + 0).toNatClampNeg) ((σ 14 (((4 * ln) + 0).toNatClampNeg)) - z_10)) (((4 * ln) + 1).toNatClampNeg)) - z_13)) (((4 * ln) + 2).toNatClampNeg)) - z_16)) (((4 * ln) + 3).toNatClampNeg) (((upd (upd (upd (σ 14) (((4 * ln) + 0).toNatClampNeg) ((σ 14 (((4 * ln) + 0).toNatClampNeg)) - z_10)) (((4 * ln) + 1).toNatClampNeg) (((upd (σ 14) (((4 * ln) + 0).toNatClampNeg) ((σ 14 (((4 * ln) + 0).toNatClampNeg)) - z_10)) (((4 * ln) + 1).toNatClampNeg)) - z_13)) (((4 * ln) + 2).toNatClampNeg) (((upd (upd (σ 14) (((4 * ln) + 0).toNatClampNeg) ((σ 14 (((4 * ln) + 0).toNatClampNeg)) - z_10)) (((4 * ln) + 1).toNatClampNeg) (((upd (σ 14) (((4 * ln) + 0).toNatClampNeg) ((σ 14 (((4 * ln) + 0).toNatClampNeg)) - z_10)) (((4 * ln) + 1).toNatClampNeg)) - z_13)) (((4 * ln) + 2).toNatClampNeg)) - z_16)) (((4 * ln) + 3).toNatClampNeg)) - z_19)) (((4 * ln) + 2).toNatClampNeg)) (j := (((4 * ln) + 2).toNatClampNeg)) hx hb hK hP 14 0 rfl rfl (kx_ix4 (kx_none hnl hn3 (by subst e_5 e_8 e_11 e_14 e_17 e_20 e_23; exact h6)) (by decide)) rfl rfl dM_pay_276 ?_
            refine lv_isub hx hb dM_pay_277 ?_
            refine kx_retv0 (va_runV (C := RM) (As := [.int ln, .int (((upd (σ 7) ln.toNatClampNeg (((σ 7 ln.toNatClampNeg) - ((upd (upd (upd (upd (σ 16) (((6 * ln) + 0).toNatClampNeg) z_10) (((6 * ln) + 1).toNatClampNeg) z_13) (((6 * ln) + 2).toNatClampNeg) z_16) (((6 * ln) + 3).toNatClampNeg) z_19) (((6 * ln) + 2).toNatClampNeg))) - z_22)) ln.toNatClampNeg) - ((upd (upd (upd (upd (σ 14) (((4 * ln) + 0).toNatClampNeg) ((σ 14 (((4 * ln) + 0).toNatClampNeg)) - z_10)) (((4 * ln) + 1).toNatClampNeg) (((upd (σ 14) (((4 * ln) + 0).toNatClampNeg) ((σ 14 (((4 * ln) + 0).toNatClampNeg)) - z_10)) (((4 * ln) + 1).toNatClampNeg)) - z_13)) (((4 * ln) + 2).toNatClampNeg) (((upd (upd (σ 14) (((4 * ln) + 0).toNatClampNeg) ((σ 14 (((4 * ln) + 0).toNatClampNeg)) - z_10)) (((4 * ln) + 1).toNatClampNeg) (((upd (σ 14) (((4 * ln) + 0).toNatClampNeg) ((σ 14 (((4 * ln) + 0).toNatClampNeg)) - z_10)) (((4 * ln) + 1).toNatClampNeg)) - z_13)) (((4 * ln) + 2).toNatClampNeg)) - z_16)) (((4 * ln) + 3).toNatClampNeg) (((upd (upd (upd (σ 14) (((4 * ln) + 0).toNatClampNeg) ((σ 14 (((4 * ln) + 0).toNatClampNeg)) - z_10)) (((4 * ln) + 1).toNatClampNeg) (((upd (σ 14) (((4 * ln) + 0).toNatClampNeg) ((σ 14 (((4 * ln) + 0).toNatClampNeg)) - z_10)) (((4 * ln) + 1).toNatClampNeg)) - z_13)) (((4 * ln) + 2).toNatClampNeg) (((upd (upd (σ 14) (((4 * ln) + 0).toNatClampNeg) ((σ 14 (((4 * ln) + 0).toNatClampNeg)) - z_10)) (((4 * ln) + 1).toNatClampNeg) (((upd (σ 14) (((4 * ln) + 0).toNatClampNeg) ((σ 14 (((4 * ln) + 0).toNatClampNeg)) - z_10)) (((4 * ln) + 1).toNatClampNeg)) - z_13)) (((4 * ln) + 2).toNatClampNeg)) - z_16)) (((4 * ln) + 3).toNatClampNeg)) - z_19)) (((4 * ln) + 2).toNatClampNeg)))]) (rest := []) ⟨hx, hb, hml, hown, hg⟩ (c_M_reckon l D G b (mkM 0 (σ 0 1) (σ 0 2) (σ 0 3) (σ 0 4) (σ 0 5) (σ 1) (σ 2) (σ 3) (σ 4) (σ 5) (σ 6) (upd (σ 7) ln.toNatClampNeg (((σ 7 ln.toNatClampNeg) - ((upd (upd (upd (upd (σ 16) (((6 * ln) + 0).toNatClampNeg) z_10) (((6 * ln) + 1).toNatClampNeg) z_13) (((6 * ln) + 2).toNatClampNeg) z_16) (((6 * ln) + 3).toNatClampNeg) z_19) (((6 * ln) + 2).toNatClampNeg))) - z_22)) (σ 8) (σ 9) (σ 10) (upd (σ 11) ln.toNatClampNeg ((σ 11 ln.toNatClampNeg) + ((upd (upd (upd (upd (upd (upd (σ 16) (((6 * ln) + 0).toNatClampNeg) z_10) (((6 * ln) + 1).toNatClampNeg) z_13) (((6 * ln) + 2).toNatClampNeg) z_16) (((6 * ln) + 3).toNatClampNeg) z_19) (((6 * ln) + 4).toNatClampNeg) z_22) (((6 * ln) + 5).toNatClampNeg) (((((cents - z_10) - z_13) - z_16) - z_19) - z_22)) (((6 * ln) + 3).toNatClampNeg)))) (σ 12) (σ 13) (upd (upd (upd (upd (σ 14) (((4 * ln) + 0).toNatClampNeg) ((σ 14 (((4 * ln) + 0).toNatClampNeg)) - z_10)) (((4 * ln) + 1).toNatClampNeg) (((upd (σ 14) (((4 * ln) + 0).toNatClampNeg) ((σ 14 (((4 * ln) + 0).toNatClampNeg)) - z_10)) (((4 * ln) + 1).toNatClampNeg)) - z_13)) (((4 * ln) + 2).toNatClampNeg) (((upd (upd (σ 14) (((4 * ln) + 0).toNatClampNeg) ((σ 14 (((4 * ln) + 0).toNatClampNeg)) - z_10)) (((4 * ln) + 1).toNatClampNeg) (((upd (σ 14) (((4 * ln) + 0).toNatClampNeg) ((σ 14 (((4 * ln) + 0).toNatClampNeg)) - z_10)) (((4 * ln) + 1).toNatClampNeg)) - z_13)) (((4 * ln) + 2).toNatClampNeg)) - z_16)) (((4 * ln) + 3).toNatClampNeg) (((upd (upd (upd (σ 14) (((4 * ln) + 0).toNatClampNeg) ((σ 14 (((4 * ln) + 0).toNatClampNeg)) - z_10)) (((4 * ln) + 1).toNatClampNeg) (((upd (σ 14) (((4 * ln) + 0).toNatClampNeg) ((σ 14 (((4 * ln) + 0).toNatClampNeg)) - z_10)) (((4 * ln) + 1).toNatClampNeg)) - z_13)) (((4 * ln) + 2).toNatClampNeg) (((upd (upd (σ 14) (((4 * ln) + 0).toNatClampNeg) ((σ 14 (((4 * ln) + 0).toNatClampNeg)) - z_10)) (((4 * ln) + 1).toNatClampNeg) (((upd (σ 14) (((4 * ln) + 0).toNatClampNeg) ((σ 14 (((4 * ln) + 0).toNatClampNeg)) - z_10)) (((4 * ln) + 1).toNatClampNeg)) - z_13)) (((4 * ln) + 2).toNatClampNeg)) - z_16)) (((4 * ln) + 3).toNatClampNeg)) - z_19)) (upd (σ 15) ln.toNatClampNeg 1) (upd (upd (upd (upd (upd (upd (σ 16) (((6 * ln) + 0).toNatClampNeg) z_10) (((6 * ln) + 1).toNatClampNeg) z_13) (((6 * ln) + 2).toNatClampNeg) z_16) (((6 * ln) + 3).toNatClampNeg) z_19) (((6 * ln) + 4).toNatClampNeg) z_22) (((6 * ln) + 5).toNatClampNeg) (((((cents - z_10) - z_13) - z_16) - z_19) - z_22)) (σ 17) (σ 18) (σ 19) (σ 20) (σ 21) (σ 22)) (u_1, u_2, u_3) ln (((upd (σ 7) ln.toNatClampNeg (((σ 7 ln.toNatClampNeg) - ((upd (upd (upd (upd (σ 16) (((6 * ln) + 0).toNatClampNeg) z_10) (((6 * ln) + 1).toNatClampNeg) z_13) (((6 * ln) + 2).toNatClampNeg) z_16) (((6 * ln) + 3).toNatClampNeg) z_19) (((6 * ln) + 2).toNatClampNeg))) - z_22)) ln.toNatClampNeg) - ((upd (upd (upd (upd (σ 14) (((4 * ln) + 0).toNatClampNeg) ((σ 14 (((4 * ln) + 0).toNatClampNeg)) - z_10)) (((4 * ln) + 1).toNatClampNeg) (((upd (σ 14) (((4 * ln) + 0).toNatClampNeg) ((σ 14 (((4 * ln) + 0).toNatClampNeg)) - z_10)) (((4 * ln) + 1).toNatClampNeg)) - z_13)) (((4 * ln) + 2).toNatClampNeg) (((upd (upd (σ 14) (((4 * ln) + 0).toNatClampNeg) ((σ 14 (((4 * ln) + 0).toNatClampNeg)) - z_10)) (((4 * ln) + 1).toNatClampNeg) (((upd (σ 14) (((4 * ln) + 0).toNatClampNeg) ((σ 14 (((4 * ln) + 0).toNatClampNeg)) - z_10)) (((4 * ln) + 1).toNatClampNeg)) - z_13)) (((4 * ln) + 2).toNatClampNeg)) - z_16)) (((4 * ln) + 3).toNatClampNeg) (((upd (upd (upd (σ 14) (((4 * ln) + 0).toNatClampNeg) ((σ 14 (((4 * ln) + 0).toNatClampNeg)) - z_10)) (((4 * ln) + 1).toNatClampNeg) (((upd (σ 14) (((4 * ln) + 0).toNatClampNeg) ((σ 14 (((4 * ln) + 0).toNatClampNeg)) - z_10)) (((4 * ln) + 1).toNatClampNeg)) - z_13)) (((4 * ln) + 2).toNatClampNeg) (((upd (upd (σ 14) (((4 * ln) + 0).toNatClampNeg) ((σ 14 (((4 * ln) + 0).toNatClampNeg)) - z_10)) (((4 * ln) + 1).toNatClampNeg) (((upd (σ 14) (((4 * ln) + 0).toNatClampNeg) ((σ 14 (((4 * ln) + 0).toNatClampNeg)) - z_10)) (((4 * ln) + 1).toNatClampNeg)) - z_13)) (((4 * ln) + 2).toNatClampNeg)) - z_16)) (((4 * ln) + 3).toNatClampNeg)) - z_19)) (((4 * ln) + 2).toNatClampNeg))) _ (kx_none hnl hn3 (by subst e_5 e_8 e_11 e_14 e_17 e_20 e_23; exact h6)) (by subst e_5 e_8 e_11 e_14 e_17 e_20 e_23; exact (hpp h6).1) (by subst e_5 e_8 e_11 e_14 e_17 e_20 e_23; exact (hpp h6).2)) ⟨kw_cB (n := 2) hg gw_629 gw_2 gw_627 (by decide +kernel) (by decide +kernel) ⟨Nat.le_of_ble_eq_true rfl, Nat.le_of_ble_eq_true rfl⟩ rfl rfl, hg _ gw_628, hg _ gw_746⟩ (kw_preV (q0 := 0) hK hP hD rfl rfl) rfl rfl hl.1 rfl (lv_room (Nat.le_of_ble_eq_true rfl)) dM_pay_278 ⟨Nat.le_of_ble_eq_true rfl, Nat.le_of_ble_eq_true rfl⟩) hP hD hS (fun _ h => Or.inr h) (fun u_28 u_29 u_30 H locs hP hD hS => ?_)
            obtain ⟨S_31, e_32⟩ : ∃ z : KS, (kM_reckon (mkM 0 (σ 0 1) (σ 0 2) (σ 0 3) (σ 0 4) (σ 0 5) (σ 1) (σ 2) (σ 3) (σ 4) (σ 5) (σ 6) (upd (σ 7) ln.toNatClampNeg (((σ 7 ln.toNatClampNeg) - ((upd (upd (upd (upd (σ 16) (((6 * ln) + 0).toNatClampNeg) z_10) (((6 * ln) + 1).toNatClampNeg) z_13) (((6 * ln) + 2).toNatClampNeg) z_16) (((6 * ln) + 3).toNatClampNeg) z_19) (((6 * ln) + 2).toNatClampNeg))) - z_22)) (σ 8) (σ 9) (σ 10) (upd (σ 11) ln.toNatClampNeg ((σ 11 ln.toNatClampNeg) + ((upd (upd (upd (upd (upd (upd (σ 16) (((6 * ln) + 0).toNatClampNeg) z_10) (((6 * ln) + 1).toNatClampNeg) z_13) (((6 * ln) + 2).toNatClampNeg) z_16) (((6 * ln) + 3).toNatClampNeg) z_19) (((6 * ln) + 4).toNatClampNeg) z_22) (((6 * ln) + 5).toNatClampNeg) (((((cents - z_10) - z_13) - z_16) - z_19) - z_22)) (((6 * ln) + 3).toNatClampNeg)))) (σ 12) (σ 13) (upd (upd (upd (upd (σ 14) (((4 * ln) + 0).toNatClampNeg) ((σ 14 (((4 * ln) + 0).toNatClampNeg)) - z_10)) (((4 * ln) + 1).toNatClampNeg) (((upd (σ 14) (((4 * ln) + 0).toNatClampNeg) ((σ 14 (((4 * ln) + 0).toNatClampNeg)) - z_10)) (((4 * ln) + 1).toNatClampNeg)) - z_13)) (((4 * ln) + 2).toNatClampNeg) (((upd (upd (σ 14) (((4 * ln) + 0).toNatClampNeg) ((σ 14 (((4 * ln) + 0).toNatClampNeg)) - z_10)) (((4 * ln) + 1).toNatClampNeg) (((upd (σ 14) (((4 * ln) + 0).toNatClampNeg) ((σ 14 (((4 * ln) + 0).toNatClampNeg)) - z_10)) (((4 * ln) + 1).toNatClampNeg)) - z_13)) (((4 * ln) + 2).toNatClampNeg)) - z_16)) (((4 * ln) + 3).toNatClampNeg) (((upd (upd (upd (σ 14) (((4 * ln) + 0).toNatClampNeg) ((σ 14 (((4 * ln) + 0).toNatClampNeg)) - z_10)) (((4 * ln) + 1).toNatClampNeg) (((upd (σ 14) (((4 * ln) + 0).toNatClampNeg) ((σ 14 (((4 * ln) + 0).toNatClampNeg)) - z_10)) (((4 * ln) + 1).toNatClampNeg)) - z_13)) (((4 * ln) + 2).toNatClampNeg) (((upd (upd (σ 14) (((4 * ln) + 0).toNatClampNeg) ((σ 14 (((4 * ln) + 0).toNatClampNeg)) - z_10)) (((4 * ln) + 1).toNatClampNeg) (((upd (σ 14) (((4 * ln) + 0).toNatClampNeg) ((σ 14 (((4 * ln) + 0).toNatClampNeg)) - z_10)) (((4 * ln) + 1).toNatClampNeg)) - z_13)) (((4 * ln) + 2).toNatClampNeg)) - z_16)) (((4 * ln) + 3).toNatClampNeg)) - z_19)) (upd (σ 15) ln.toNatClampNeg 1) (upd (upd (upd (upd (upd (upd (σ 16) (((6 * ln) + 0).toNatClampNeg) z_10) (((6 * ln) + 1).toNatClampNeg) z_13) (((6 * ln) + 2).toNatClampNeg) z_16) (((6 * ln) + 3).toNatClampNeg) z_19) (((6 * ln) + 4).toNatClampNeg) z_22) (((6 * ln) + 5).toNatClampNeg) (((((cents - z_10) - z_13) - z_16) - z_19) - z_22)) (σ 17) (σ 18) (σ 19) (σ 20) (σ 21) (σ 22)) ln (((upd (σ 7) ln.toNatClampNeg (((σ 7 ln.toNatClampNeg) - ((upd (upd (upd (upd (σ 16) (((6 * ln) + 0).toNatClampNeg) z_10) (((6 * ln) + 1).toNatClampNeg) z_13) (((6 * ln) + 2).toNatClampNeg) z_16) (((6 * ln) + 3).toNatClampNeg) z_19) (((6 * ln) + 2).toNatClampNeg))) - z_22)) ln.toNatClampNeg) - ((upd (upd (upd (upd (σ 14) (((4 * ln) + 0).toNatClampNeg) ((σ 14 (((4 * ln) + 0).toNatClampNeg)) - z_10)) (((4 * ln) + 1).toNatClampNeg) (((upd (σ 14) (((4 * ln) + 0).toNatClampNeg) ((σ 14 (((4 * ln) + 0).toNatClampNeg)) - z_10)) (((4 * ln) + 1).toNatClampNeg)) - z_13)) (((4 * ln) + 2).toNatClampNeg) (((upd (upd (σ 14) (((4 * ln) + 0).toNatClampNeg) ((σ 14 (((4 * ln) + 0).toNatClampNeg)) - z_10)) (((4 * ln) + 1).toNatClampNeg) (((upd (σ 14) (((4 * ln) + 0).toNatClampNeg) ((σ 14 (((4 * ln) + 0).toNatClampNeg)) - z_10)) (((4 * ln) + 1).toNatClampNeg)) - z_13)) (((4 * ln) + 2).toNatClampNeg)) - z_16)) (((4 * ln) + 3).toNatClampNeg) (((upd (upd (upd (σ 14) (((4 * ln) + 0).toNatClampNeg) ((σ 14 (((4 * ln) + 0).toNatClampNeg)) - z_10)) (((4 * ln) + 1).toNatClampNeg) (((upd (σ 14) (((4 * ln) + 0).toNatClampNeg) ((σ 14 (((4 * ln) + 0).toNatClampNeg)) - z_10)) (((4 * ln) + 1).toNatClampNeg)) - z_13)) (((4 * ln) + 2).toNatClampNeg) (((upd (upd (σ 14) (((4 * ln) + 0).toNatClampNeg) ((σ 14 (((4 * ln) + 0).toNatClampNeg)) - z_10)) (((4 * ln) + 1).toNatClampNeg) (((upd (σ 14) (((4 * ln) + 0).toNatClampNeg) ((σ 14 (((4 * ln) + 0).toNatClampNeg)) - z_10)) (((4 * ln) + 1).toNatClampNeg)) - z_13)) (((4 * ln) + 2).toNatClampNeg)) - z_16)) (((4 * ln) + 3).toNatClampNeg)) - z_19)) (((4 * ln) + 2).toNatClampNeg)))) = z := ⟨_, rfl⟩
            rw [e_32] at hP hD
            replace e_32 : aM_pay_S_31 σ ln cents = S_31 := by subst e_5 e_8 e_11 e_14 e_17 e_20 e_23; exact e_32
            refine lv_iload_n hx hb dM_pay_281 rfl (lv_at hl 2 rfl) ?_
            refine lv_iload hx hb dM_pay_282 (lv_at hl 0 rfl) ?_
            refine lv_isub hx hb dM_pay_284 ?_
            have hk9 : kM_pay σ ln cents = (((((cents - z_10) - z_13) - z_16) - z_19) - z_22, S_31) := by subst e_5 e_8 e_11 e_14 e_17 e_20 e_23 e_32; unfold kM_pay; rw [if_pos h6, if_neg h9, if_pos h25, if_neg h26, if_pos h27]
            exact kx_iret hx hb hr hlocks hK hP hD hS (by rw [hk9]) (u := (u_28, u_29, u_30)) (by rw [hk9] <;> rfl) dM_pay_285
      · skip
        refine lv_aload_n hx hb dM_pay_205 rfl (lv_at hl 4 rfl) ?_
        refine lv_iload_n hx hb dM_pay_206 rfl (lv_at hl 5 rfl) ?_
        refine kx_retv0 (va_runV (C := RM) (As := [.int ln]) (rest := []) ⟨hx, hb, hml, hown, hg⟩ (c_M_accrue l D G b (mkM 0 (σ 0 1) (σ 0 2) (σ 0 3) (σ 0 4) (σ 0 5) (σ 1) (σ 2) (σ 3) (σ 4) (σ 5) (σ 6) (σ 7) (σ 8) (σ 9) (σ 10) (σ 11) (σ 12) (σ 13) (upd (upd (upd (upd (σ 14) (((4 * ln) + 0).toNatClampNeg) ((σ 14 (((4 * ln) + 0).toNatClampNeg)) - z_10)) (((4 * ln) + 1).toNatClampNeg) (((upd (σ 14) (((4 * ln) + 0).toNatClampNeg) ((σ 14 (((4 * ln) + 0).toNatClampNeg)) - z_10)) (((4 * ln) + 1).toNatClampNeg)) - z_13)) (((4 * ln) + 2).toNatClampNeg) (((upd (upd (σ 14) (((4 * ln) + 0).toNatClampNeg) ((σ 14 (((4 * ln) + 0).toNatClampNeg)) - z_10)) (((4 * ln) + 1).toNatClampNeg) (((upd (σ 14) (((4 * ln) + 0).toNatClampNeg) ((σ 14 (((4 * ln) + 0).toNatClampNeg)) - z_10)) (((4 * ln) + 1).toNatClampNeg)) - z_13)) (((4 * ln) + 2).toNatClampNeg)) - z_16)) (((4 * ln) + 3).toNatClampNeg) (((upd (upd (upd (σ 14) (((4 * ln) + 0).toNatClampNeg) ((σ 14 (((4 * ln) + 0).toNatClampNeg)) - z_10)) (((4 * ln) + 1).toNatClampNeg) (((upd (σ 14) (((4 * ln) + 0).toNatClampNeg) ((σ 14 (((4 * ln) + 0).toNatClampNeg)) - z_10)) (((4 * ln) + 1).toNatClampNeg)) - z_13)) (((4 * ln) + 2).toNatClampNeg) (((upd (upd (σ 14) (((4 * ln) + 0).toNatClampNeg) ((σ 14 (((4 * ln) + 0).toNatClampNeg)) - z_10)) (((4 * ln) + 1).toNatClampNeg) (((upd (σ 14) (((4 * ln) + 0).toNatClampNeg) ((σ 14 (((4 * ln) + 0).toNatClampNeg)) - z_10)) (((4 * ln) + 1).toNatClampNeg)) - z_13)) (((4 * ln) + 2).toNatClampNeg)) - z_16)) (((4 * ln) + 3).toNatClampNeg)) - z_19)) (upd (σ 15) ln.toNatClampNeg 1) (upd (upd (upd (upd (upd (upd (σ 16) (((6 * ln) + 0).toNatClampNeg) z_10) (((6 * ln) + 1).toNatClampNeg) z_13) (((6 * ln) + 2).toNatClampNeg) z_16) (((6 * ln) + 3).toNatClampNeg) z_19) (((6 * ln) + 4).toNatClampNeg) z_22) (((6 * ln) + 5).toNatClampNeg) (((((cents - z_10) - z_13) - z_16) - z_19) - z_22)) (σ 17) (σ 18) (σ 19) (σ 20) (σ 21) (σ 22)) (u_1, u_2, u_3) ln _ (kx_none hnl hn3 (by subst e_5 e_8 e_11 e_14 e_17 e_20 e_23; exact h6)) hto) ⟨kw_cB (n := 1) hg gw_676 gw_2 gw_674 (by decide +kernel) (by decide +kernel) ⟨Nat.le_of_ble_eq_true rfl, Nat.le_of_ble_eq_true rfl⟩ rfl rfl, hg _ gw_675, hg _ gw_756⟩ (kw_preV (q0 := 0) hK hP hD rfl rfl) rfl rfl hl.1 rfl (lv_room (Nat.le_of_ble_eq_true rfl)) dM_pay_207 ⟨Nat.le_of_ble_eq_true rfl, Nat.le_of_ble_eq_true rfl⟩) hP hD hS (fun _ h => Or.inr h) (fun u_33 u_34 u_35 H locs hP hD hS => ?_)
        obtain ⟨S_36, e_37⟩ : ∃ z : KS, (kM_accrue (mkM 0 (σ 0 1) (σ 0 2) (σ 0 3) (σ 0 4) (σ 0 5) (σ 1) (σ 2) (σ 3) (σ 4) (σ 5) (σ 6) (σ 7) (σ 8) (σ 9) (σ 10) (σ 11) (σ 12) (σ 13) (upd (upd (upd (upd (σ 14) (((4 * ln) + 0).toNatClampNeg) ((σ 14 (((4 * ln) + 0).toNatClampNeg)) - z_10)) (((4 * ln) + 1).toNatClampNeg) (((upd (σ 14) (((4 * ln) + 0).toNatClampNeg) ((σ 14 (((4 * ln) + 0).toNatClampNeg)) - z_10)) (((4 * ln) + 1).toNatClampNeg)) - z_13)) (((4 * ln) + 2).toNatClampNeg) (((upd (upd (σ 14) (((4 * ln) + 0).toNatClampNeg) ((σ 14 (((4 * ln) + 0).toNatClampNeg)) - z_10)) (((4 * ln) + 1).toNatClampNeg) (((upd (σ 14) (((4 * ln) + 0).toNatClampNeg) ((σ 14 (((4 * ln) + 0).toNatClampNeg)) - z_10)) (((4 * ln) + 1).toNatClampNeg)) - z_13)) (((4 * ln) + 2).toNatClampNeg)) - z_16)) (((4 * ln) + 3).toNatClampNeg) (((upd (upd (upd (σ 14) (((4 * ln) + 0).toNatClampNeg) ((σ 14 (((4 * ln) + 0).toNatClampNeg)) - z_10)) (((4 * ln) + 1).toNatClampNeg) (((upd (σ 14) (((4 * ln) + 0).toNatClampNeg) ((σ 14 (((4 * ln) + 0).toNatClampNeg)) - z_10)) (((4 * ln) + 1).toNatClampNeg)) - z_13)) (((4 * ln) + 2).toNatClampNeg) (((upd (upd (σ 14) (((4 * ln) + 0).toNatClampNeg) ((σ 14 (((4 * ln) + 0).toNatClampNeg)) - z_10)) (((4 * ln) + 1).toNatClampNeg) (((upd (σ 14) (((4 * ln) + 0).toNatClampNeg) ((σ 14 (((4 * ln) + 0).toNatClampNeg)) - z_10)) (((4 * ln) + 1).toNatClampNeg)) - z_13)) (((4 * ln) + 2).toNatClampNeg)) - z_16)) (((4 * ln) + 3).toNatClampNeg)) - z_19)) (upd (σ 15) ln.toNatClampNeg 1) (upd (upd (upd (upd (upd (upd (σ 16) (((6 * ln) + 0).toNatClampNeg) z_10) (((6 * ln) + 1).toNatClampNeg) z_13) (((6 * ln) + 2).toNatClampNeg) z_16) (((6 * ln) + 3).toNatClampNeg) z_19) (((6 * ln) + 4).toNatClampNeg) z_22) (((6 * ln) + 5).toNatClampNeg) (((((cents - z_10) - z_13) - z_16) - z_19) - z_22)) (σ 17) (σ 18) (σ 19) (σ 20) (σ 21) (σ 22)) ln) = z := ⟨_, rfl⟩
        rw [e_37] at hP hD
        replace e_37 : aM_pay_S_36 σ ln cents = S_36 := by subst e_5 e_8 e_11 e_14 e_17 e_20 e_23; exact e_37
        refine lv_aload_n hx hb dM_pay_210 rfl (lv_at hl 4 rfl) ?_
        refine va_get (v := .ref (b 9)) hx hb hg hin_M hown hK hP 0 rfl rfl 9 (by decide) (hg _ gw_503) (fun _ h => h) rfl dM_pay_211 ?_
        refine lv_iload_n hx hb dM_pay_214 rfl (lv_at hl 5 rfl) ?_
        refine lv_iload hx hb dM_pay_215 (lv_at hl 1 rfl) ?_
        refine lv_iload hx hb dM_pay_217 (lv_at hl 0 rfl) ?_
        refine lv_isub hx hb dM_pay_219 ?_
        refine kw_iast (w' := lm G b (S_36 0 0) (S_36 0 1) (S_36 0 2) u_33 u_34 u_35 (S_36 1) (S_36 2) (S_36 3) (S_36 4) (S_36 5) (S_36 6) (upd (S_36 7) ln.toNatClampNeg (((σ 7 ln.toNatClampNeg) - ((upd (upd (upd (upd (σ 16) (((6 * ln) + 0).toNatClampNeg) z_10) (((6 * ln) + 1).toNatClampNeg) z_13) (((6 * ln) + 2).toNatClampNeg) z_16) (((6 * ln) + 3).toNatClampNeg) z_19) (((6 * ln) + 2).toNatClampNeg))) - z_22)) (S_36 8) (S_36 9) (S_36 10) (S_36 11) (S_36 12) (S_36 13) (S_36 14) (S_36 15) (S_36 16) (S_36 17) (S_36 18) (S_36 19) (S_36 20) (S_36 21) (S_36 22)) (j := ln.toNatClampNeg) hx hb hK hP hD hS 7 0 rfl rfl (kx_none hnl hn3 (by subst e_5 e_8 e_11 e_14 e_17 e_20 e_23 e_37; exact h6)) rfl dM_pay_220 rfl (fun H locs hP hD hS => ?_)
        refine lv_aload_n hx hb dM_pay_221 rfl (lv_at hl 4 rfl) ?_
        refine va_get (v := .ref (b 13)) hx hb hg hin_M hown hK hP 0 rfl rfl 13 (by decide) (hg _ gw_507) (fun _ h => h) rfl dM_pay_222 ?_
        refine lv_iload_n hx hb dM_pay_225 rfl (lv_at hl 5 rfl) ?_
        refine lv_aload_n hx hb dM_pay_226 rfl (lv_at hl 4 rfl) ?_
        refine va_get (v := .ref (b 13)) hx hb hg hin_M hown hK hP 0 rfl rfl 13 (by decide) (hg _ gw_507) (fun _ h => h) rfl dM_pay_227 ?_
        refine lv_iload_n hx hb dM_pay_230 rfl (lv_at hl 5 rfl) ?_
        refine kw_iald (v := S_36 11 ln.toNatClampNeg) (j := ln.toNatClampNeg) hx hb hK hP 11 0 rfl rfl (kx_none hnl hn3 (by subst e_5 e_8 e_11 e_14 e_17 e_20 e_23 e_37; exact h6)) rfl rfl dM_pay_231 ?_
        refine lv_aload_n hx hb dM_pay_232 rfl (lv_at hl 4 rfl) ?_
        refine va_get (v := .ref (b 18)) hx hb hg hin_M hown hK hP 0 rfl rfl 18 (by decide) (hg _ gw_512) (fun _ h => h) rfl dM_pay_233 ?_
        refine lv_bipush (v := 6) hx hb dM_pay_236 (by decide) ?_
        refine lv_iload_n hx hb dM_pay_238 rfl (lv_at hl 5 rfl) ?_
        refine lv_imul hx hb dM_pay_239 ?_
        refine lv_iconst (v := 3) hx hb dM_pay_240 (by decide) ?_
        refine lv_iadd hx hb dM_pay_241 ?_
        refine kw_iald (v := S_36 16 (((6 * ln) + 3).toNatClampNeg)) (j := (((6 * ln) + 3).toNatClampNeg)) hx hb hK hP 16 0 rfl rfl (kx_ix6 (kx_none hnl hn3 (by subst e_5 e_8 e_11 e_14 e_17 e_20 e_23 e_37; exact h6)) (by decide)) rfl rfl dM_pay_242 ?_
        refine lv_iadd hx hb dM_pay_243 ?_
        refine kw_iast (w' := lm G b (S_36 0 0) (S_36 0 1) (S_36 0 2) u_33 u_34 u_35 (S_36 1) (S_36 2) (S_36 3) (S_36 4) (S_36 5) (S_36 6) (upd (S_36 7) ln.toNatClampNeg (((σ 7 ln.toNatClampNeg) - ((upd (upd (upd (upd (σ 16) (((6 * ln) + 0).toNatClampNeg) z_10) (((6 * ln) + 1).toNatClampNeg) z_13) (((6 * ln) + 2).toNatClampNeg) z_16) (((6 * ln) + 3).toNatClampNeg) z_19) (((6 * ln) + 2).toNatClampNeg))) - z_22)) (S_36 8) (S_36 9) (S_36 10) (upd (S_36 11) ln.toNatClampNeg ((S_36 11 ln.toNatClampNeg) + (S_36 16 (((6 * ln) + 3).toNatClampNeg)))) (S_36 12) (S_36 13) (S_36 14) (S_36 15) (S_36 16) (S_36 17) (S_36 18) (S_36 19) (S_36 20) (S_36 21) (S_36 22)) (j := ln.toNatClampNeg) hx hb hK hP hD hS 11 0 rfl rfl (kx_none hnl hn3 (by subst e_5 e_8 e_11 e_14 e_17 e_20 e_23 e_37; exact h6)) rfl dM_pay_244 rfl (fun H locs hP hD hS => ?_)
        refine lv_iload hx hb dM_pay_245 (lv_at hl 0 rfl) ?_
        refine lv_if_le (tgt := 281) hx hb dM_pay_247 (by decide) (fun h38 => ?_) (fun h38 => ?_)
        · skip
          refine lv_iload_n hx hb dM_pay_281 rfl (lv_at hl 2 rfl) ?_
          refine lv_iload hx hb dM_pay_282 (lv_at hl 0 rfl) ?_
          refine lv_isub hx hb dM_pay_284 ?_
          have hk9 : kM_pay σ ln cents = (((((cents - z_10) - z_13) - z_16) - z_19) - z_22, mkM (S_36 0 0) (S_36 0 1) (S_36 0 2) (S_36 0 3) (S_36 0 4) (S_36 0 5) (S_36 1) (S_36 2) (S_36 3) (S_36 4) (S_36 5) (S_36 6) (upd (S_36 7) ln.toNatClampNeg (((σ 7 ln.toNatClampNeg) - ((upd (upd (upd (upd (σ 16) (((6 * ln) + 0).toNatClampNeg) z_10) (((6 * ln) + 1).toNatClampNeg) z_13) (((6 * ln) + 2).toNatClampNeg) z_16) (((6 * ln) + 3).toNatClampNeg) z_19) (((6 * ln) + 2).toNatClampNeg))) - z_22)) (S_36 8) (S_36 9) (S_36 10) (upd (S_36 11) ln.toNatClampNeg ((S_36 11 ln.toNatClampNeg) + (S_36 16 (((6 * ln) + 3).toNatClampNeg)))) (S_36 12) (S_36 13) (S_36 14) (S_36 15) (S_36 16) (S_36 17) (S_36 18) (S_36 19) (S_36 20) (S_36 21) (S_36 22)) := by subst e_5 e_8 e_11 e_14 e_17 e_20 e_23 e_37; unfold kM_pay; rw [if_pos h6, if_neg h9, if_neg h25, if_pos h38]
          exact kx_iret hx hb hr hlocks hK hP hD hS (by rw [hk9]) (u := (u_33, u_34, u_35)) (by rw [hk9] <;> rfl) dM_pay_285
        · skip
          refine lv_aload_n hx hb dM_pay_250 rfl (lv_at hl 4 rfl) ?_
          refine va_get (v := .ref (b 8)) hx hb hg hin_M hown hK hP 0 rfl rfl 8 (by decide) (hg _ gw_502) (fun _ h => h) rfl dM_pay_251 ?_
          refine lv_iload_n hx hb dM_pay_254 rfl (lv_at hl 5 rfl) ?_
          refine kw_zald (v := S_36 6 ln.toNatClampNeg) (j := ln.toNatClampNeg) hx hb hK hP 6 1 rfl rfl (kx_none hnl hn3 (by subst e_5 e_8 e_11 e_14 e_17 e_20 e_23 e_37; exact h6)) rfl rfl dM_pay_255 ?_
          refine lv_if_ne (tgt := 281) hx hb dM_pay_256 (by decide) (fun h39 => ?_) (fun h39 => ?_)
          · skip
            refine lv_iload_n hx hb dM_pay_281 rfl (lv_at hl 2 rfl) ?_
            refine lv_iload hx hb dM_pay_282 (lv_at hl 0 rfl) ?_
            refine lv_isub hx hb dM_pay_284 ?_
            have hk9 : kM_pay σ ln cents = (((((cents - z_10) - z_13) - z_16) - z_19) - z_22, mkM (S_36 0 0) (S_36 0 1) (S_36 0 2) (S_36 0 3) (S_36 0 4) (S_36 0 5) (S_36 1) (S_36 2) (S_36 3) (S_36 4) (S_36 5) (S_36 6) (upd (S_36 7) ln.toNatClampNeg (((σ 7 ln.toNatClampNeg) - ((upd (upd (upd (upd (σ 16) (((6 * ln) + 0).toNatClampNeg) z_10) (((6 * ln) + 1).toNatClampNeg) z_13) (((6 * ln) + 2).toNatClampNeg) z_16) (((6 * ln) + 3).toNatClampNeg) z_19) (((6 * ln) + 2).toNatClampNeg))) - z_22)) (S_36 8) (S_36 9) (S_36 10) (upd (S_36 11) ln.toNatClampNeg ((S_36 11 ln.toNatClampNeg) + (S_36 16 (((6 * ln) + 3).toNatClampNeg)))) (S_36 12) (S_36 13) (S_36 14) (S_36 15) (S_36 16) (S_36 17) (S_36 18) (S_36 19) (S_36 20) (S_36 21) (S_36 22)) := by subst e_5 e_8 e_11 e_14 e_17 e_20 e_23 e_37; unfold kM_pay; rw [if_pos h6, if_neg h9, if_neg h25, if_neg h38, if_neg h39]
            exact kx_iret hx hb hr hlocks hK hP hD hS (by rw [hk9]) (u := (u_33, u_34, u_35)) (by rw [hk9] <;> rfl) dM_pay_285
          · skip
            refine lv_aload_n hx hb dM_pay_259 rfl (lv_at hl 4 rfl) ?_
            refine lv_iload_n hx hb dM_pay_260 rfl (lv_at hl 5 rfl) ?_
            refine lv_aload_n hx hb dM_pay_261 rfl (lv_at hl 4 rfl) ?_
            refine va_get (v := .ref (b 9)) hx hb hg hin_M hown hK hP 0 rfl rfl 9 (by decide) (hg _ gw_503) (fun _ h => h) rfl dM_pay_262 ?_
            refine lv_iload_n hx hb dM_pay_265 rfl (lv_at hl 5 rfl) ?_
            refine kw_iald (v := (upd (S_36 7) ln.toNatClampNeg (((σ 7 ln.toNatClampNeg) - ((upd (upd (upd (upd (σ 16) (((6 * ln) + 0).toNatClampNeg) z_10) (((6 * ln) + 1).toNatClampNeg) z_13) (((6 * ln) + 2).toNatClampNeg) z_16) (((6 * ln) + 3).toNatClampNeg) z_19) (((6 * ln) + 2).toNatClampNeg))) - z_22)) ln.toNatClampNeg) (j := ln.toNatClampNeg) hx hb hK hP 7 0 rfl rfl (kx_none hnl hn3 (by subst e_5 e_8 e_11 e_14 e_17 e_20 e_23 e_37; exact h6)) rfl rfl dM_pay_266 ?_
            refine lv_aload_n hx hb dM_pay_267 rfl (lv_at hl 4 rfl) ?_
            refine va_get (v := .ref (b 16)) hx hb hg hin_M hown hK hP 0 rfl rfl 16 (by decide) (hg _ gw_510) (fun _ h => h) rfl dM_pay_268 ?_
            refine lv_iconst (v := 4) hx hb dM_pay_271 (by decide) ?_
            refine lv_iload_n hx hb dM_pay_272 rfl (lv_at hl 5 rfl) ?_
            refine lv_imul hx hb dM_pay_273 ?_
            refine lv_iconst (v := 2) hx hb dM_pay_274 (by decide) ?_
            refine lv_iadd hx hb dM_pay_275 ?_
            refine kw_iald (v := S_36 14 (((4 * ln) + 2).toNatClampNeg)) (j := (((4 * ln) + 2).toNatClampNeg)) hx hb hK hP 14 0 rfl rfl (kx_ix4 (kx_none hnl hn3 (by subst e_5 e_8 e_11 e_14 e_17 e_20 e_23 e_37; exact h6)) (by decide)) rfl rfl dM_pay_276 ?_
            refine lv_isub hx hb dM_pay_277 ?_
            refine kx_retv0 (va_runV (C := RM) (As := [.int ln, .int (((upd (S_36 7) ln.toNatClampNeg (((σ 7 ln.toNatClampNeg) - ((upd (upd (upd (upd (σ 16) (((6 * ln) + 0).toNatClampNeg) z_10) (((6 * ln) + 1).toNatClampNeg) z_13) (((6 * ln) + 2).toNatClampNeg) z_16) (((6 * ln) + 3).toNatClampNeg) z_19) (((6 * ln) + 2).toNatClampNeg))) - z_22)) ln.toNatClampNeg) - (S_36 14 (((4 * ln) + 2).toNatClampNeg)))]) (rest := []) ⟨hx, hb, hml, hown, hg⟩ (c_M_reckon l D G b (mkM (S_36 0 0) (S_36 0 1) (S_36 0 2) (S_36 0 3) (S_36 0 4) (S_36 0 5) (S_36 1) (S_36 2) (S_36 3) (S_36 4) (S_36 5) (S_36 6) (upd (S_36 7) ln.toNatClampNeg (((σ 7 ln.toNatClampNeg) - ((upd (upd (upd (upd (σ 16) (((6 * ln) + 0).toNatClampNeg) z_10) (((6 * ln) + 1).toNatClampNeg) z_13) (((6 * ln) + 2).toNatClampNeg) z_16) (((6 * ln) + 3).toNatClampNeg) z_19) (((6 * ln) + 2).toNatClampNeg))) - z_22)) (S_36 8) (S_36 9) (S_36 10) (upd (S_36 11) ln.toNatClampNeg ((S_36 11 ln.toNatClampNeg) + (S_36 16 (((6 * ln) + 3).toNatClampNeg)))) (S_36 12) (S_36 13) (S_36 14) (S_36 15) (S_36 16) (S_36 17) (S_36 18) (S_36 19) (S_36 20) (S_36 21) (S_36 22)) (u_33, u_34, u_35) ln (((upd (S_36 7) ln.toNatClampNeg (((σ 7 ln.toNatClampNeg) - ((upd (upd (upd (upd (σ 16) (((6 * ln) + 0).toNatClampNeg) z_10) (((6 * ln) + 1).toNatClampNeg) z_13) (((6 * ln) + 2).toNatClampNeg) z_16) (((6 * ln) + 3).toNatClampNeg) z_19) (((6 * ln) + 2).toNatClampNeg))) - z_22)) ln.toNatClampNeg) - (S_36 14 (((4 * ln) + 2).toNatClampNeg))) _ (kx_none hnl hn3 (by subst e_5 e_8 e_11 e_14 e_17 e_20 e_23 e_37; exact h6)) (by subst e_5 e_8 e_11 e_14 e_17 e_20 e_23 e_37; exact (hpp h6).1) (by subst e_5 e_8 e_11 e_14 e_17 e_20 e_23 e_37; exact (hpp h6).2)) ⟨kw_cB (n := 2) hg gw_629 gw_2 gw_627 (by decide +kernel) (by decide +kernel) ⟨Nat.le_of_ble_eq_true rfl, Nat.le_of_ble_eq_true rfl⟩ rfl rfl, hg _ gw_628, hg _ gw_746⟩ (kw_preV (q0 := 0) hK hP hD rfl rfl) rfl rfl hl.1 rfl (lv_room (Nat.le_of_ble_eq_true rfl)) dM_pay_278 ⟨Nat.le_of_ble_eq_true rfl, Nat.le_of_ble_eq_true rfl⟩) hP hD hS (fun _ h => Or.inr h) (fun u_40 u_41 u_42 H locs hP hD hS => ?_)
            obtain ⟨S_43, e_44⟩ : ∃ z : KS, (kM_reckon (mkM (S_36 0 0) (S_36 0 1) (S_36 0 2) (S_36 0 3) (S_36 0 4) (S_36 0 5) (S_36 1) (S_36 2) (S_36 3) (S_36 4) (S_36 5) (S_36 6) (upd (S_36 7) ln.toNatClampNeg (((σ 7 ln.toNatClampNeg) - ((upd (upd (upd (upd (σ 16) (((6 * ln) + 0).toNatClampNeg) z_10) (((6 * ln) + 1).toNatClampNeg) z_13) (((6 * ln) + 2).toNatClampNeg) z_16) (((6 * ln) + 3).toNatClampNeg) z_19) (((6 * ln) + 2).toNatClampNeg))) - z_22)) (S_36 8) (S_36 9) (S_36 10) (upd (S_36 11) ln.toNatClampNeg ((S_36 11 ln.toNatClampNeg) + (S_36 16 (((6 * ln) + 3).toNatClampNeg)))) (S_36 12) (S_36 13) (S_36 14) (S_36 15) (S_36 16) (S_36 17) (S_36 18) (S_36 19) (S_36 20) (S_36 21) (S_36 22)) ln (((upd (S_36 7) ln.toNatClampNeg (((σ 7 ln.toNatClampNeg) - ((upd (upd (upd (upd (σ 16) (((6 * ln) + 0).toNatClampNeg) z_10) (((6 * ln) + 1).toNatClampNeg) z_13) (((6 * ln) + 2).toNatClampNeg) z_16) (((6 * ln) + 3).toNatClampNeg) z_19) (((6 * ln) + 2).toNatClampNeg))) - z_22)) ln.toNatClampNeg) - (S_36 14 (((4 * ln) + 2).toNatClampNeg)))) = z := ⟨_, rfl⟩
            rw [e_44] at hP hD
            replace e_44 : aM_pay_S_43 σ ln cents = S_43 := by subst e_5 e_8 e_11 e_14 e_17 e_20 e_23 e_37; exact e_44
            refine lv_iload_n hx hb dM_pay_281 rfl (lv_at hl 2 rfl) ?_
            refine lv_iload hx hb dM_pay_282 (lv_at hl 0 rfl) ?_
            refine lv_isub hx hb dM_pay_284 ?_
            have hk9 : kM_pay σ ln cents = (((((cents - z_10) - z_13) - z_16) - z_19) - z_22, S_43) := by subst e_5 e_8 e_11 e_14 e_17 e_20 e_23 e_37 e_44; unfold kM_pay; rw [if_pos h6, if_neg h9, if_neg h25, if_neg h38, if_pos h39]
            exact kx_iret hx hb hr hlocks hK hP hD hS (by rw [hk9]) (u := (u_40, u_41, u_42)) (by rw [hk9] <;> rfl) dM_pay_285
  · skip
    refine lv_iconst (v := 1) hx hb dM_pay_9 (by decide) ?_
    refine lv_goto (tgt := 28) hx hb dM_pay_10 (by decide) ?_
    refine kw_put (w' := lm G b 1 (σ 0 1) (σ 0 2) u_1 u_2 u_3 (σ 1) (σ 2) (σ 3) (σ 4) (σ 5) (σ 6) (σ 7) (σ 8) (σ 9) (σ 10) (σ 11) (σ 12) (σ 13) (σ 14) (σ 15) (σ 16) (σ 17) (σ 18) (σ 19) (σ 20) (σ 21) (σ 22)) (v := .int 1) (ty := .int) hx hb hg hin_M tyM tyM_ok nM hown hK hP hD hS 0 rfl rfl 0 (by decide) (hg _ gw_494) (fun _ h => h) rfl (by decide +kernel) rfl rfl (Nat.le_of_ble_eq_true rfl) dM_pay_28 rfl (fun H locs hP hD hS => ?_)
    refine lv_aload_n hx hb dM_pay_31 rfl (lv_at hl 0 rfl) ?_
    refine va_get (v := .int 1) hx hb hg hin_M hown hK hP 0 rfl rfl 0 (by decide) (hg _ gw_494) (fun _ h => h) rfl dM_pay_32 ?_
    refine lv_if_le (tgt := 40) hx hb dM_pay_35 (by decide) (fun h => absurd h (by decide)) (fun _ => ?_)
    refine lv_iconst (v := 0) hx hb dM_pay_38 (by decide) ?_
    have hk9 : kM_pay σ ln cents = (0, mkM 1 (σ 0 1) (σ 0 2) (σ 0 3) (σ 0 4) (σ 0 5) (σ 1) (σ 2) (σ 3) (σ 4) (σ 5) (σ 6) (σ 7) (σ 8) (σ 9) (σ 10) (σ 11) (σ 12) (σ 13) (σ 14) (σ 15) (σ 16) (σ 17) (σ 18) (σ 19) (σ 20) (σ 21) (σ 22)) := by subst e_5; unfold kM_pay; rw [if_neg h6]
    exact kx_iret hx hb hr hlocks hK hP hD hS (by rw [hk9]) (u := (u_1, u_2, u_3)) (by rw [hk9] <;> rfl) dM_pay_39
