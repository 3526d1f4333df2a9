/-! the reference: days -/
def lf_fm (day : Int32) : Nat → Int32 → Int32 → Int32 → Int32 × Int32 × Int32
  | 0, _, _, _ => (0, 0, 0)
  | n + 1, left2, sy2, sm => if left2 < (kM_daysIn sy2 sm) then (sy2, sm, left2 + 1) else (lf_fm day n (left2 - (kM_daysIn sy2 sm)) (sy2 : Int32) (sm + 1 : Int32))
def lok_fm (day : Int32) : Nat → Int32 → Int32 → Int32 → Bool
  | 0, _, _, _ => false
  | n + 1, left2, sy2, sm => if left2 < (kM_daysIn sy2 sm) then true else (lok_fm day n (left2 - (kM_daysIn sy2 sm)) (sy2 : Int32) (sm + 1 : Int32))
def lf_fy (day : Int32) : Nat → Int32 → Int32 → Int32 × Int32 × Int32
  | 0, _, _ => (0, 0, 0)
  | n + 1, left, sy => if left < (kM_daysOf sy) then (lf_fm day (left.toNatClampNeg + 1) left (sy : Int32) (1 : Int32)) else (lf_fy day n (left - (kM_daysOf sy)) (sy + 1 : Int32))
def lok_fy (day : Int32) : Nat → Int32 → Int32 → Bool
  | 0, _, _ => false
  | n + 1, left, sy => if left < (kM_daysOf sy) then true else (lok_fy day n (left - (kM_daysOf sy)) (sy + 1 : Int32))
def kM_find (day : Int32) : Int32 × Int32 × Int32 := lf_fy day (day.toNatClampNeg + 1) day (2000 : Int32)
abbrev wgM_find : List Cond := .code yM_find cM_find 3 none :: GW
abbrev rm_M_find : Room := { frames := 2, cells := 0, slots := 0, locals := 41 }
theorem lok_fm_ok (day : Int32) : ∀ (n : Nat) (left sy sm : Int32), left.toNatClampNeg ≤ n → lok_fm day (n + 1) left sy sm = true := by
  intro n
  induction n with
  | zero =>
    intro left sy sm h
    unfold lok_fm
    split
    · rfl
    · rename_i h2
      exfalso
      have h3 : (left - kM_daysIn sy sm).toNatClampNeg ≤ left.toNatClampNeg := by
        rcases kd_in sy sm with q | q | q | q <;> rw [q] at h2 ⊢ <;> exact kd_fall (by decide) h2 (Nat.le_succ _)
      rw [Int32.lt_iff_toInt_lt] at h2
      have e1 : left.toNatClampNeg = left.toInt.toNat := rfl
      rcases kd_in sy sm with q | q | q | q <;> rw [q] at h2
      · have : (28 : Int32).toInt = 28 := by decide
        omega
      · have : (29 : Int32).toInt = 29 := by decide
        omega
      · have : (30 : Int32).toInt = 30 := by decide
        omega
      · have : (31 : Int32).toInt = 31 := by decide
        omega
  | succ n ih =>
    intro left sy sm h
    unfold lok_fm
    split
    · rfl
    · rename_i h2
      refine ih _ _ _ ?_
      rcases kd_in sy sm with q | q | q | q <;> rw [q] at h2 ⊢ <;> exact kd_fall (by decide) h2 h
theorem lok_fy_ok (day : Int32) : ∀ (n : Nat) (left sy : Int32), left.toNatClampNeg ≤ n → lok_fy day (n + 1) left sy = true := by
  intro n
  induction n with
  | zero =>
    intro left sy h
    unfold lok_fy
    split
    · rfl
    · rename_i h2
      exfalso
      rw [Int32.lt_iff_toInt_lt] at h2
      have e1 : left.toNatClampNeg = left.toInt.toNat := rfl
      rcases kd_len sy with q | q <;> rw [q] at h2
      · have : (366 : Int32).toInt = 366 := by decide
        omega
      · have : (365 : Int32).toInt = 365 := by decide
        omega
  | succ n ih =>
    intro left sy h
    unfold lok_fy
    split
    · rfl
    · rename_i h2
      refine ih _ _ ?_
      rcases kd_len sy with q | q <;> rw [q] at h2 ⊢ <;> exact kd_fall (by decide) h2 h
set_option maxRecDepth 100000 in
set_option maxHeartbeats 4000000 in
theorem c_M_find (l : Launch) (D : va_G) (G : Nat → ClassId) (b : Nat → Nat) (σ : KS) (u0 : Int32 × Int32 × Int32) (day : Int32) (sz : Nat)  : Met l yM_find wgM_find rm_M_find (kw_Pc D vwCl (gt G) [.ref (b 0), .int day] (mcells G b (scr σ u0)) sz) (kw_v D vwCl (gt G) (mcells G b (scr σ u0)) sz (mcells G b (scr σ (kM_find day)))) 0 0 (va_A (mcells G b (scr σ u0)) sz) := by
  refine Met.ofW (cc := cM_find) (maxL := 3) (ret := none) (by decide) rfl ?_
  intro p e s m args below meth c s₁ B hml hv
  have hx := B.exec
  have hb := B.bytes
  have hr := B.returns
  have hts := atoms_spec (ws := wgM_find) B.pre
  have hg : ∀ w ∈ GW, w.before args s = true := fun w h => hts w (List.mem_cons_of_mem _ h)
  have hown : s.vm.findClass RM = some m.cls := findClass_of_methodNamed B.named
  have hlocks := B.notSynchronized
  obtain ⟨hv, hsz, hP, hK, hD0⟩ := hv
  subst hsz
  have hD := hD0.self (sz := s.heap.size)
  have hS : va_S (va_A (mcells G b (scr σ u0)) s.heap.size) s.heap s.heap [] := va_S.rf
  refine kw_entry [.ref (b 0), .int day] hv (Nat.le_of_ble_eq_true rfl) (fun ls hl => ?_)
  have hl : lv_has ls 3 [(0, .ref (b 0)), (1, .int day)] := hl
  refine lv_iload_n hx hb dM_find_0 rfl (lv_at hl 1 rfl) ?_
  refine lv_istore_n hx hb dM_find_1 rfl hl (by decide) rfl (fun ls hl => ?_)
  have hl : lv_has ls 3 [(2, .int day), (0, .ref (b 0)), (1, .int day)] := hl
  refine lv_aload_n hx hb dM_find_2 rfl (lv_at hl 1 rfl) ?_
  refine lv_sipush (v := 2000) hx hb dM_find_3 (by decide) ?_
  refine kw_put (w' := lm G b (σ 0 0) (σ 0 1) (σ 0 2) 2000 u0.2.1 u0.2.2 (σ 1) (σ 2) (σ 3) (σ 4) (σ 5) (σ 6) (σ 7) (σ 8) (σ 9) (σ 10) (σ 11) (σ 12) (σ 13) (σ 14) (σ 15) (σ 16) (σ 17) (σ 18) (σ 19) (σ 20) (σ 21) (σ 22)) (v := .int 2000) (ty := .int) hx hb hg hin_M tyM tyM_ok nM hown hK hP hD hS 0 rfl rfl 25 (by decide) (hg _ gw_519) (fun _ h => h) rfl (by decide +kernel) rfl rfl (Nat.le_of_ble_eq_true rfl) dM_find_6 rfl (fun H locs hP hD hS => ?_)
  have loop : ∀ (n : Nat) (left : Int32) (sy : Int32) (ls : Array Slot) (H : Heap) (locs : List Loc), lok_fy day n left sy = true → lf_fy day n left sy = kM_find day → lv_has ls 3 [(2, .int left), (0, .ref (b 0)), (1, .int day)] → va_P D vwCl (lm G b (σ 0 0) (σ 0 1) (σ 0 2) sy u0.2.1 u0.2.2 (σ 1) (σ 2) (σ 3) (σ 4) (σ 5) (σ 6) (σ 7) (σ 8) (σ 9) (σ 10) (σ 11) (σ 12) (σ 13) (σ 14) (σ 15) (σ 16) (σ 17) (σ 18) (σ 19) (σ 20) (σ 21) (σ 22)) H → va_D (va_A (mcells G b (scr σ u0)) s.heap.size) (lm G b (σ 0 0) (σ 0 1) (σ 0 2) sy u0.2.1 u0.2.2 (σ 1) (σ 2) (σ 3) (σ 4) (σ 5) (σ 6) (σ 7) (σ 8) (σ 9) (σ 10) (σ 11) (σ 12) (σ 13) (σ 14) (σ 15) (σ 16) (σ 17) (σ 18) (σ 19) (σ 20) (σ 21) (σ 22)) → va_S (va_A (mcells G b (scr σ u0)) s.heap.size) s.heap H locs → W p l e (headSpec wgM_find rm_M_find).room s m args below meth c H locs 0 0 (MQ below (kw_v D vwCl (gt G) (mcells G b (scr σ u0)) s.heap.size (mcells G b (scr σ (kM_find day)))) args s 0 0 (va_A (mcells G b (scr σ u0)) s.heap.size)) (F0 m 9 ls []) := by
    intro n
    induction n with
    | zero => intro left sy ls H locs hok; exact absurd hok (by unfold lok_fy; decide)
    | succ n ih =>
      intro left sy ls H locs hok hk hl hP hD hS
      refine lv_iload_n hx hb dM_find_9 rfl (lv_at hl 0 rfl) ?_
      refine lv_aload_n hx hb dM_find_10 rfl (lv_at hl 1 rfl) ?_
      refine va_get (v := .int sy) hx hb hg hin_M hown hK hP 0 rfl rfl 25 (by decide) (hg _ gw_519) (fun _ h => h) rfl dM_find_11 ?_
      refine kp_reti (va_runS (As := [.int sy]) (rest := [.int left]) ⟨hx, hb, hml, hown, hg⟩ (c_M_daysOf l sy) ⟨kw_cB (n := 1) hg gw_593 gw_2 gw_591 (by decide +kernel) (by decide +kernel) ⟨Nat.le_of_ble_eq_true rfl, Nat.le_of_ble_eq_true rfl⟩ rfl rfl, hg _ gw_592⟩ kp_pre rfl rfl hl.1 rfl (lv_room (Nat.le_of_ble_eq_true rfl)) dM_find_14 ⟨Nat.le_of_ble_eq_true rfl, Nat.le_of_ble_eq_true rfl⟩) ?_
      refine lv_topi (fun r_1 e_2 => ?_)
      replace e_2 := e_2.symm
      refine lv_icmp_lt (tgt := 43) hx hb dM_find_17 (by decide) (fun h3 => ?_) (fun h3 => ?_)
      · skip
        refine lv_aload_n hx hb dM_find_43 rfl (lv_at hl 1 rfl) ?_
        refine lv_iconst (v := 1) hx hb dM_find_44 (by decide) ?_
        refine kw_put (w' := lm G b (σ 0 0) (σ 0 1) (σ 0 2) sy 1 u0.2.2 (σ 1) (σ 2) (σ 3) (σ 4) (σ 5) (σ 6) (σ 7) (σ 8) (σ 9) (σ 10) (σ 11) (σ 12) (σ 13) (σ 14) (σ 15) (σ 16) (σ 17) (σ 18) (σ 19) (σ 20) (σ 21) (σ 22)) (v := .int 1) (ty := .int) hx hb hg hin_M tyM tyM_ok nM hown hK hP hD hS 0 rfl rfl 26 (by decide) (hg _ gw_520) (fun _ h => h) rfl (by decide +kernel) rfl rfl (Nat.le_of_ble_eq_true rfl) dM_find_45 rfl (fun H locs hP hD hS => ?_)
        have loop : ∀ (n : Nat) (left2 : Int32) (sy2 : Int32) (sm : Int32) (ls : Array Slot) (H : Heap) (locs : List Loc), lok_fm day n left2 sy2 sm = true → lf_fm day n left2 sy2 sm = kM_find day → lv_has ls 3 [(2, .int left2), (0, .ref (b 0)), (1, .int day)] → va_P D vwCl (lm G b (σ 0 0) (σ 0 1) (σ 0 2) sy2 sm u0.2.2 (σ 1) (σ 2) (σ 3) (σ 4) (σ 5) (σ 6) (σ 7) (σ 8) (σ 9) (σ 10) (σ 11) (σ 12) (σ 13) (σ 14) (σ 15) (σ 16) (σ 17) (σ 18) (σ 19) (σ 20) (σ 21) (σ 22)) H → va_D (va_A (mcells G b (scr σ u0)) s.heap.size) (lm G b (σ 0 0) (σ 0 1) (σ 0 2) sy2 sm u0.2.2 (σ 1) (σ 2) (σ 3) (σ 4) (σ 5) (σ 6) (σ 7) (σ 8) (σ 9) (σ 10) (σ 11) (σ 12) (σ 13) (σ 14) (σ 15) (σ 16) (σ 17) (σ 18) (σ 19) (σ 20) (σ 21) (σ 22)) → va_S (va_A (mcells G b (scr σ u0)) s.heap.size) s.heap H locs → W p l e (headSpec wgM_find rm_M_find).room s m args below meth c H locs 0 0 (MQ below (kw_v D vwCl (gt G) (mcells G b (scr σ u0)) s.heap.size (mcells G b (scr σ (kM_find day)))) args s 0 0 (va_A (mcells G b (scr σ u0)) s.heap.size)) (F0 m 48 ls []) := by
          intro n
          induction n with
          | zero => intro left2 sy2 sm ls H locs hok; exact absurd hok (by unfold lok_fm; decide)
          | succ n ih =>
            intro left2 sy2 sm ls H locs hok hk hl hP hD hS
            refine lv_iload_n hx hb dM_find_48 rfl (lv_at hl 0 rfl) ?_
            refine lv_aload_n hx hb dM_find_49 rfl (lv_at hl 1 rfl) ?_
            refine va_get (v := .int sy2) hx hb hg hin_M hown hK hP 0 rfl rfl 25 (by decide) (hg _ gw_519) (fun _ h => h) rfl dM_find_50 ?_
            refine lv_aload_n hx hb dM_find_53 rfl (lv_at hl 1 rfl) ?_
            refine va_get (v := .int sm) hx hb hg hin_M hown hK hP 0 rfl rfl 26 (by decide) (hg _ gw_520) (fun _ h => h) rfl dM_find_54 ?_
            refine kp_reti (va_runS (As := [.int sy2, .int sm]) (rest := [.int left2]) ⟨hx, hb, hml, hown, hg⟩ (c_M_daysIn l sy2 sm) ⟨kw_cB (n := 2) hg gw_596 gw_2 gw_594 (by decide +kernel) (by decide +kernel) ⟨Nat.le_of_ble_eq_true rfl, Nat.le_of_ble_eq_true rfl⟩ rfl rfl, hg _ gw_595⟩ kp_pre rfl rfl hl.1 rfl (lv_room (Nat.le_of_ble_eq_true rfl)) dM_find_57 ⟨Nat.le_of_ble_eq_true rfl, Nat.le_of_ble_eq_true rfl⟩) ?_
            refine lv_topi (fun r_4 e_5 => ?_)
            replace e_5 := e_5.symm
            refine lv_icmp_lt (tgt := 90) hx hb dM_find_60 (by decide) (fun h6 => ?_) (fun h6 => ?_)
            · skip
              refine lv_aload_n hx hb dM_find_90 rfl (lv_at hl 1 rfl) ?_
              refine lv_iload_n hx hb dM_find_91 rfl (lv_at hl 0 rfl) ?_
              refine lv_iconst (v := 1) hx hb dM_find_92 (by decide) ?_
              refine lv_iadd hx hb dM_find_93 ?_
              refine kw_put (w' := lm G b (σ 0 0) (σ 0 1) (σ 0 2) sy2 sm (left2 + 1) (σ 1) (σ 2) (σ 3) (σ 4) (σ 5) (σ 6) (σ 7) (σ 8) (σ 9) (σ 10) (σ 11) (σ 12) (σ 13) (σ 14) (σ 15) (σ 16) (σ 17) (σ 18) (σ 19) (σ 20) (σ 21) (σ 22)) (v := .int (left2 + 1)) (ty := .int) hx hb hg hin_M tyM tyM_ok nM hown hK hP hD hS 0 rfl rfl 27 (by decide) (hg _ gw_521) (fun _ h => h) rfl (by decide +kernel) rfl rfl (Nat.le_of_ble_eq_true rfl) dM_find_94 rfl (fun H locs hP hD hS => ?_)
              have hk9 : kM_find day = (sy2, sm, left2 + 1) := by subst e_5; rw [← hk, lf_fm, if_pos h6]
              exact kw_vret hx hb hr hlocks hK hP hD hS (by rw [hk9] <;> rfl) dM_find_97
            · skip
              refine lv_iload_n hx hb dM_find_63 rfl (lv_at hl 0 rfl) ?_
              refine lv_aload_n hx hb dM_find_64 rfl (lv_at hl 1 rfl) ?_
              refine va_get (v := .int sy2) hx hb hg hin_M hown hK hP 0 rfl rfl 25 (by decide) (hg _ gw_519) (fun _ h => h) rfl dM_find_65 ?_
              refine lv_aload_n hx hb dM_find_68 rfl (lv_at hl 1 rfl) ?_
              refine va_get (v := .int sm) hx hb hg hin_M hown hK hP 0 rfl rfl 26 (by decide) (hg _ gw_520) (fun _ h => h) rfl dM_find_69 ?_
              refine kp_reti (va_runS (As := [.int sy2, .int sm]) (rest := [.int left2]) ⟨hx, hb, hml, hown, hg⟩ (c_M_daysIn l sy2 sm) ⟨kw_cB (n := 2) hg gw_596 gw_2 gw_594 (by decide +kernel) (by decide +kernel) ⟨Nat.le_of_ble_eq_true rfl, Nat.le_of_ble_eq_true rfl⟩ rfl rfl, hg _ gw_595⟩ kp_pre rfl rfl hl.1 rfl (lv_room (Nat.le_of_ble_eq_true rfl)) dM_find_72 ⟨Nat.le_of_ble_eq_true rfl, Nat.le_of_ble_eq_true rfl⟩) ?_
              refine lv_topi (fun r_7 e_8 => ?_)
              replace e_8 := e_8.symm
              refine lv_isub hx hb dM_find_75 ?_
              refine lv_istore_n hx hb dM_find_76 rfl hl (by decide) rfl (fun ls hl => ?_)
              have hl : lv_has ls 3 [(2, .int (left2 - r_7)), (0, .ref (b 0)), (1, .int day)] := hl
              refine lv_aload_n hx hb dM_find_77 rfl (lv_at hl 1 rfl) ?_
              refine lv_dup hx hb dM_find_78 rfl ?_
              refine va_get (v := .int sm) hx hb hg hin_M hown hK hP 0 rfl rfl 26 (by decide) (hg _ gw_520) (fun _ h => h) rfl dM_find_79 ?_
              refine lv_iconst (v := 1) hx hb dM_find_82 (by decide) ?_
              refine lv_iadd hx hb dM_find_83 ?_
              refine kw_put (w' := lm G b (σ 0 0) (σ 0 1) (σ 0 2) sy2 (sm + 1) u0.2.2 (σ 1) (σ 2) (σ 3) (σ 4) (σ 5) (σ 6) (σ 7) (σ 8) (σ 9) (σ 10) (σ 11) (σ 12) (σ 13) (σ 14) (σ 15) (σ 16) (σ 17) (σ 18) (σ 19) (σ 20) (σ 21) (σ 22)) (v := .int (sm + 1)) (ty := .int) hx hb hg hin_M tyM tyM_ok nM hown hK hP hD hS 0 rfl rfl 26 (by decide) (hg _ gw_520) (fun _ h => h) rfl (by decide +kernel) rfl rfl (Nat.le_of_ble_eq_true rfl) dM_find_84 rfl (fun H locs hP hD hS => ?_)
              refine lv_goto (tgt := 48) hx hb dM_find_87 (by decide) ?_
              exact ih (left2 - r_7) (sy2 : Int32) (sm + 1 : Int32) _ _ _ (by subst e_5 e_8; rw [← hok, lok_fm, if_neg h6]) (by subst e_5 e_8; rw [← hk, lf_fm, if_neg h6]) (lv_sub hl [0, 1, 2] rfl) hP hD hS
        exact loop (left.toNatClampNeg + 1) left (sy : Int32) (1 : Int32) _ _ _ (lok_fm_ok day _ _ _ _ (Nat.le_refl _)) (by subst e_2; rw [← hk, lf_fy, if_pos h3]) (lv_sub hl [0, 1, 2] rfl) hP hD hS
      · skip
        refine lv_iload_n hx hb dM_find_20 rfl (lv_at hl 0 rfl) ?_
        refine lv_aload_n hx hb dM_find_21 rfl (lv_at hl 1 rfl) ?_
        refine va_get (v := .int sy) hx hb hg hin_M hown hK hP 0 rfl rfl 25 (by decide) (hg _ gw_519) (fun _ h => h) rfl dM_find_22 ?_
        refine kp_reti (va_runS (As := [.int sy]) (rest := [.int left]) ⟨hx, hb, hml, hown, hg⟩ (c_M_daysOf l sy) ⟨kw_cB (n := 1) hg gw_593 gw_2 gw_591 (by decide +kernel) (by decide +kernel) ⟨Nat.le_of_ble_eq_true rfl, Nat.le_of_ble_eq_true rfl⟩ rfl rfl, hg _ gw_592⟩ kp_pre rfl rfl hl.1 rfl (lv_room (Nat.le_of_ble_eq_true rfl)) dM_find_25 ⟨Nat.le_of_ble_eq_true rfl, Nat.le_of_ble_eq_true rfl⟩) ?_
        refine lv_topi (fun r_9 e_10 => ?_)
        replace e_10 := e_10.symm
        refine lv_isub hx hb dM_find_28 ?_
        refine lv_istore_n hx hb dM_find_29 rfl hl (by decide) rfl (fun ls hl => ?_)
        have hl : lv_has ls 3 [(2, .int (left - r_9)), (0, .ref (b 0)), (1, .int day)] := hl
        refine lv_aload_n hx hb dM_find_30 rfl (lv_at hl 1 rfl) ?_
        refine lv_dup hx hb dM_find_31 rfl ?_
        refine va_get (v := .int sy) hx hb hg hin_M hown hK hP 0 rfl rfl 25 (by decide) (hg _ gw_519) (fun _ h => h) rfl dM_find_32 ?_
        refine lv_iconst (v := 1) hx hb dM_find_35 (by decide) ?_
        refine lv_iadd hx hb dM_find_36 ?_
        refine kw_put (w' := lm G b (σ 0 0) (σ 0 1) (σ 0 2) (sy + 1) u0.2.1 u0.2.2 (σ 1) (σ 2) (σ 3) (σ 4) (σ 5) (σ 6) (σ 7) (σ 8) (σ 9) (σ 10) (σ 11) (σ 12) (σ 13) (σ 14) (σ 15) (σ 16) (σ 17) (σ 18) (σ 19) (σ 20) (σ 21) (σ 22)) (v := .int (sy + 1)) (ty := .int) hx hb hg hin_M tyM tyM_ok nM hown hK hP hD hS 0 rfl rfl 25 (by decide) (hg _ gw_519) (fun _ h => h) rfl (by decide +kernel) rfl rfl (Nat.le_of_ble_eq_true rfl) dM_find_37 rfl (fun H locs hP hD hS => ?_)
        refine lv_goto (tgt := 9) hx hb dM_find_40 (by decide) ?_
        exact ih (left - r_9) (sy + 1 : Int32) _ _ _ (by subst e_2 e_10; rw [← hok, lok_fy, if_neg h3]) (by subst e_2 e_10; rw [← hk, lf_fy, if_neg h3]) (lv_sub hl [0, 1, 2] rfl) hP hD hS
  exact loop (day.toNatClampNeg + 1) day (2000 : Int32) _ _ _ (lok_fy_ok day _ _ _ (Nat.le_refl _)) (by rfl) (lv_sub hl [0, 1, 2] rfl) hP hD hS
def lf_dm (y : Int32) (mo : Int32) (dd : Int32) : Nat → Int32 → Int32 → Int32
  | 0, _, _ => 0
  | n + 1, day2, k2 => if mo ≤ k2 then day2 else (lf_dm y mo dd n (day2 + (kM_daysIn y k2)) (k2 + 1))
def lok_dm (y : Int32) (mo : Int32) (dd : Int32) : Nat → Int32 → Int32 → Bool
  | 0, _, _ => false
  | n + 1, day2, k2 => if mo ≤ k2 then true else (lok_dm y mo dd n (day2 + (kM_daysIn y k2)) (k2 + 1))
def lf_dy (y : Int32) (mo : Int32) (dd : Int32) : Nat → Int32 → Int32 → Int32
  | 0, _, _ => 0
  | n + 1, day, kk => if y ≤ kk then (lf_dm y mo dd ((mo.toInt - 1).toNat + 1) day (1 : Int32)) else (lf_dy y mo dd n (day + (kM_daysOf kk)) (kk + 1))
def lok_dy (y : Int32) (mo : Int32) (dd : Int32) : Nat → Int32 → Int32 → Bool
  | 0, _, _ => false
  | n + 1, day, kk => if y ≤ kk then true else (lok_dy y mo dd n (day + (kM_daysOf kk)) (kk + 1))
def kM_dayOf (y : Int32) (mo : Int32) (dd : Int32) : Int32 := lf_dy y mo dd ((y.toInt - 2000).toNat + 1) (dd - 1) (2000 : Int32)
abbrev wgM_dayOf : List Cond := .code yM_dayOf cM_dayOf 5 (some .int) :: GW
abbrev rm_M_dayOf : Room := { frames := 2, cells := 0, slots := 0, locals := 41 }
theorem lok_dm_ok (y mo dd : Int32) : ∀ (n : Nat) (x k : Int32), mo.toInt - k.toInt ≤ n → lok_dm y mo dd (n + 1) x k = true := by
  intro n
  induction n with
  | zero =>
    intro x k h
    unfold lok_dm
    split
    · rfl
    · rename_i h2
      have := kd_up h2
      omega
  | succ n ih =>
    intro x k h
    unfold lok_dm
    split
    · rfl
    · rename_i h2
      have := kd_up h2
      exact ih _ _ (by omega)
theorem lok_dy_ok (y mo dd : Int32) : ∀ (n : Nat) (x k : Int32), y.toInt - k.toInt ≤ n → lok_dy y mo dd (n + 1) x k = true := by
  intro n
  induction n with
  | zero =>
    intro x k h
    unfold lok_dy
    split
    · rfl
    · rename_i h2
      have := kd_up h2
      omega
  | succ n ih =>
    intro x k h
    unfold lok_dy
    split
    · rfl
    · rename_i h2
      have := kd_up h2
      exact ih _ _ (by omega)
set_option maxRecDepth 100000 in
set_option maxHeartbeats 4000000 in
theorem c_M_dayOf (l : Launch) (y : Int32) (mo : Int32) (dd : Int32)  : Met l yM_dayOf wgM_dayOf rm_M_dayOf (kp_Pc [.int y, .int mo, .int dd]) (vp_Si (fun x => x = (kM_dayOf y mo dd))) 0 0 (fun _ => False) := by
  refine Met.ofW (cc := cM_dayOf) (maxL := 5) (ret := (some .int)) (by decide) rfl ?_
  intro p e s m args below meth c s₁ B hml hv
  have hx := B.exec
  have hb := B.bytes
  have hr := B.returns
  have hts := atoms_spec (ws := wgM_dayOf) B.pre
  have hg : ∀ w ∈ GW, w.before args s = true := fun w h => hts w (List.mem_cons_of_mem _ h)
  have hown : s.vm.findClass RM = some m.cls := findClass_of_methodNamed B.named
  have hlocks := B.notSynchronized
  refine kw_entry [.int y, .int mo, .int dd] hv (Nat.le_of_ble_eq_true rfl) (fun ls hl => ?_)
  have hl : lv_has ls 5 [(0, .int y), (1, .int mo), (2, .int dd)] := hl
  refine lv_iload_n hx hb dM_dayOf_0 rfl (lv_at hl 2 rfl) ?_
  refine lv_iconst (v := 1) hx hb dM_dayOf_1 (by decide) ?_
  refine lv_isub hx hb dM_dayOf_2 ?_
  refine lv_istore_n hx hb dM_dayOf_3 rfl hl (by decide) rfl (fun ls hl => ?_)
  have hl : lv_has ls 5 [(3, .int (dd - 1)), (0, .int y), (1, .int mo), (2, .int dd)] := hl
  refine lv_sipush (v := 2000) hx hb dM_dayOf_4 (by decide) ?_
  refine lv_istore hx hb dM_dayOf_7 hl (by decide) rfl (fun ls hl => ?_)
  have hl : lv_has ls 5 [(4, .int 2000), (3, .int (dd - 1)), (0, .int y), (1, .int mo), (2, .int dd)] := hl
  have loop : ∀ (n : Nat) (day : Int32) (kk : Int32) (ls : Array Slot) (H : Heap) (locs : List Loc), lok_dy y mo dd n day kk = true → lf_dy y mo dd n day kk = kM_dayOf y mo dd → lv_has ls 5 [(4, .int kk), (3, .int day), (0, .int y), (1, .int mo), (2, .int dd)] → H = s.heap → locs = [] → W p l e (headSpec wgM_dayOf rm_M_dayOf).room s m args below meth c H locs 0 0 (MQ below (vp_Si (fun x => x = (kM_dayOf y mo dd))) args s 0 0 (fun _ => False)) (F0 m 9 ls []) := by
    intro n
    induction n with
    | zero => intro day kk ls H locs hok; exact absurd hok (by unfold lok_dy; decide)
    | succ n ih =>
      intro day kk ls H locs hok hk hl hH hlc
      subst hH; subst hlc
      refine lv_iload hx hb dM_dayOf_9 (lv_at hl 0 rfl) ?_
      refine lv_iload_n hx hb dM_dayOf_11 rfl (lv_at hl 2 rfl) ?_
      refine lv_icmp_ge (tgt := 29) hx hb dM_dayOf_12 (by decide) (fun h1 => ?_) (fun h1 => ?_)
      · skip
        refine lv_iconst (v := 1) hx hb dM_dayOf_29 (by decide) ?_
        refine lv_istore hx hb dM_dayOf_30 hl (by decide) rfl (fun ls hl => ?_)
        have hl : lv_has ls 5 [(4, .int 1), (3, .int day), (0, .int y), (1, .int mo), (2, .int dd)] := hl
        have loop : ∀ (n : Nat) (day2 : Int32) (k2 : Int32) (ls : Array Slot) (H : Heap) (locs : List Loc), lok_dm y mo dd n day2 k2 = true → lf_dm y mo dd n day2 k2 = kM_dayOf y mo dd → lv_has ls 5 [(4, .int k2), (3, .int day2), (0, .int y), (1, .int mo), (2, .int dd)] → H = s.heap → locs = [] → W p l e (headSpec wgM_dayOf rm_M_dayOf).room s m args below meth c H locs 0 0 (MQ below (vp_Si (fun x => x = (kM_dayOf y mo dd))) args s 0 0 (fun _ => False)) (F0 m 32 ls []) := by
          intro n
          induction n with
          | zero => intro day2 k2 ls H locs hok; exact absurd hok (by unfold lok_dm; decide)
          | succ n ih =>
            intro day2 k2 ls H locs hok hk hl hH hlc
            subst hH; subst hlc
            refine lv_iload hx hb dM_dayOf_32 (lv_at hl 0 rfl) ?_
            refine lv_iload_n hx hb dM_dayOf_34 rfl (lv_at hl 3 rfl) ?_
            refine lv_icmp_ge (tgt := 53) hx hb dM_dayOf_35 (by decide) (fun h2 => ?_) (fun h2 => ?_)
            · skip
              refine lv_iload_n hx hb dM_dayOf_53 rfl (lv_at hl 1 rfl) ?_
              have hk9 : kM_dayOf y mo dd = day2 := by rw [← hk, lf_dm, if_pos h2]
              exact kp_iret hx hb hr hlocks hk9.symm dM_dayOf_54
            · skip
              refine lv_iload_n hx hb dM_dayOf_38 rfl (lv_at hl 1 rfl) ?_
              refine lv_iload_n hx hb dM_dayOf_39 rfl (lv_at hl 2 rfl) ?_
              refine lv_iload hx hb dM_dayOf_40 (lv_at hl 0 rfl) ?_
              refine kp_reti (va_runS (As := [.int y, .int k2]) (rest := [.int day2]) ⟨hx, hb, hml, hown, hg⟩ (c_M_daysIn l y k2) ⟨kw_cB (n := 2) hg gw_596 gw_2 gw_594 (by decide +kernel) (by decide +kernel) ⟨Nat.le_of_ble_eq_true rfl, Nat.le_of_ble_eq_true rfl⟩ rfl rfl, hg _ gw_595⟩ kp_pre rfl rfl hl.1 rfl (lv_room (Nat.le_of_ble_eq_true rfl)) dM_dayOf_42 ⟨Nat.le_of_ble_eq_true rfl, Nat.le_of_ble_eq_true rfl⟩) ?_
              refine lv_topi (fun r_3 e_4 => ?_)
              replace e_4 := e_4.symm
              refine lv_iadd hx hb dM_dayOf_45 ?_
              refine lv_istore_n hx hb dM_dayOf_46 rfl hl (by decide) rfl (fun ls hl => ?_)
              have hl : lv_has ls 5 [(3, .int (day2 + r_3)), (4, .int k2), (0, .int y), (1, .int mo), (2, .int dd)] := hl
              refine lv_iinc (v := k2 + 1) hx hb dM_dayOf_47 hl (k := 1) rfl (by first | rfl | decide) (by decide) rfl (fun ls hl => ?_)
              have hl : lv_has ls 5 [(4, .int (k2 + 1)), (3, .int (day2 + r_3)), (0, .int y), (1, .int mo), (2, .int dd)] := hl
              refine lv_goto (tgt := 32) hx hb dM_dayOf_50 (by decide) ?_
              exact ih (day2 + r_3) (k2 + 1) _ _ _ (by subst e_4; rw [← hok, lok_dm, if_neg h2]) (by subst e_4; rw [← hk, lf_dm, if_neg h2]) (lv_sub hl [0, 1, 2, 3, 4] rfl) rfl rfl
        exact loop ((mo.toInt - 1).toNat + 1) day (1 : Int32) _ _ _ (lok_dm_ok y mo dd _ _ _ (by rw [show (1 : Int32).toInt = 1 from by decide]; omega)) (by rw [← hk, lf_dy, if_pos h1]) (lv_sub hl [0, 1, 2, 3, 4] rfl) rfl rfl
      · skip
        refine lv_iload_n hx hb dM_dayOf_15 rfl (lv_at hl 1 rfl) ?_
        refine lv_iload hx hb dM_dayOf_16 (lv_at hl 0 rfl) ?_
        refine kp_reti (va_runS (As := [.int kk]) (rest := [.int day]) ⟨hx, hb, hml, hown, hg⟩ (c_M_daysOf l kk) ⟨kw_cB (n := 1) hg gw_593 gw_2 gw_591 (by decide +kernel) (by decide +kernel) ⟨Nat.le_of_ble_eq_true rfl, Nat.le_of_ble_eq_true rfl⟩ rfl rfl, hg _ gw_592⟩ kp_pre rfl rfl hl.1 rfl (lv_room (Nat.le_of_ble_eq_true rfl)) dM_dayOf_18 ⟨Nat.le_of_ble_eq_true rfl, Nat.le_of_ble_eq_true rfl⟩) ?_
        refine lv_topi (fun r_5 e_6 => ?_)
        replace e_6 := e_6.symm
        refine lv_iadd hx hb dM_dayOf_21 ?_
        refine lv_istore_n hx hb dM_dayOf_22 rfl hl (by decide) rfl (fun ls hl => ?_)
        have hl : lv_has ls 5 [(3, .int (day + r_5)), (4, .int kk), (0, .int y), (1, .int mo), (2, .int dd)] := hl
        refine lv_iinc (v := kk + 1) hx hb dM_dayOf_23 hl (k := 1) rfl (by first | rfl | decide) (by decide) rfl (fun ls hl => ?_)
        have hl : lv_has ls 5 [(4, .int (kk + 1)), (3, .int (day + r_5)), (0, .int y), (1, .int mo), (2, .int dd)] := hl
        refine lv_goto (tgt := 9) hx hb dM_dayOf_26 (by decide) ?_
        exact ih (day + r_5) (kk + 1) _ _ _ (by subst e_6; rw [← hok, lok_dy, if_neg h1]) (by subst e_6; rw [← hk, lf_dy, if_neg h1]) (lv_sub hl [0, 1, 2, 3, 4] rfl) rfl rfl
  exact loop ((y.toInt - 2000).toNat + 1) (dd - 1) (2000 : Int32) _ _ _ (lok_dy_ok y mo dd _ _ _ (by rw [show (2000 : Int32).toInt = 2000 from by decide]; omega)) (by rfl) (lv_sub hl [0, 1, 2, 3, 4] rfl) rfl rfl
def kM_dueDay (start : Int32) (kk : Int32) : Int32 := if (kM_daysIn ((kM_find start).1 + ((((kM_find start).2.1 - 1) + kk) / 12)) (((((kM_find start).2.1 - 1) + kk) - (((kM_find start).2.1 - 1) + kk) / 12 * 12) + 1)) ≤ (kM_find start).2.2 then (kM_dayOf ((kM_find start).1 + ((((kM_find start).2.1 - 1) + kk) / 12)) (((((kM_find start).2.1 - 1) + kk) - (((kM_find start).2.1 - 1) + kk) / 12 * 12) + 1) (kM_daysIn ((kM_find start).1 + ((((kM_find start).2.1 - 1) + kk) / 12)) (((((kM_find start).2.1 - 1) + kk) - (((kM_find start).2.1 - 1) + kk) / 12 * 12) + 1))) else (kM_dayOf ((kM_find start).1 + ((((kM_find start).2.1 - 1) + kk) / 12)) (((((kM_find start).2.1 - 1) + kk) - (((kM_find start).2.1 - 1) + kk) / 12 * 12) + 1) (kM_find start).2.2)
abbrev wgM_dueDay : List Cond := .code yM_dueDay cM_dueDay 7 (some .int) :: GW
abbrev rm_M_dueDay : Room := { frames := 3, cells := 0, slots := 0, locals := 65 }
set_option maxRecDepth 100000 in
set_option maxHeartbeats 4000000 in
theorem c_M_dueDay (l : Launch) (D : va_G) (G : Nat → ClassId) (b : Nat → Nat) (σ : KS) (u0 : Int32 × Int32 × Int32) (start : Int32) (kk : Int32) (sz : Nat)  : Met l yM_dueDay wgM_dueDay rm_M_dueDay (kw_Pc D vwCl (gt G) [.ref (b 0), .int start, .int kk] (mcells G b (scr σ u0)) sz) (kx_i D vwCl (gt G) (mcells G b (scr σ u0)) sz (kM_dueDay start kk) (fun u => mcells G b (scr σ u))) 0 0 (va_A (mcells G b (scr σ u0)) sz) := by
  refine Met.ofW (cc := cM_dueDay) (maxL := 7) (ret := (some .int)) (by decide) rfl ?_
  intro p e s m args below meth c s₁ B hml hv
  have hx := B.exec
  have hb := B.bytes
  have hr := B.returns
  have hts := atoms_spec (ws := wgM_dueDay) B.pre
  have hg : ∀ w ∈ GW, w.before args s = true := fun w h => hts w (List.mem_cons_of_mem _ h)
  have hown : s.vm.findClass RM = some m.cls := findClass_of_methodNamed B.named
  have hlocks := B.notSynchronized
  obtain ⟨hv, hsz, hP, hK, hD0⟩ := hv
  subst hsz
  have hD := hD0.self (sz := s.heap.size)
  have hS : va_S (va_A (mcells G b (scr σ u0)) s.heap.size) s.heap s.heap [] := va_S.rf
  refine kw_entry [.ref (b 0), .int start, .int kk] hv (Nat.le_of_ble_eq_true rfl) (fun ls hl => ?_)
  have hl : lv_has ls 7 [(0, .ref (b 0)), (1, .int start), (2, .int kk)] := hl
  refine lv_aload_n hx hb dM_dueDay_0 rfl (lv_at hl 0 rfl) ?_
  refine lv_iload_n hx hb dM_dueDay_1 rfl (lv_at hl 1 rfl) ?_
  refine kw_retv0 (va_runV (C := RM) (As := [.int start]) (rest := []) ⟨hx, hb, hml, hown, hg⟩ (c_M_find l D G b σ (u0.1, u0.2.1, u0.2.2) start _) ⟨kw_cB (n := 1) hg gw_590 gw_2 gw_588 (by decide +kernel) (by decide +kernel) ⟨Nat.le_of_ble_eq_true rfl, Nat.le_of_ble_eq_true rfl⟩ rfl rfl, hg _ gw_589, hg _ gw_743⟩ (kw_preV (q0 := 0) hK hP hD rfl rfl) rfl rfl hl.1 rfl (lv_room (Nat.le_of_ble_eq_true rfl)) dM_dueDay_2 ⟨Nat.le_of_ble_eq_true rfl, Nat.le_of_ble_eq_true rfl⟩) hP hD hS (fun _ h => Or.inr h) (fun H locs hP hD hS => ?_)
  obtain ⟨t_1, e_2⟩ : ∃ z : Int32 × Int32 × Int32, kM_find start = z := ⟨_, rfl⟩
  rw [e_2] at hP hD
  refine lv_aload_n hx hb dM_dueDay_5 rfl (lv_at hl 0 rfl) ?_
  refine va_get (v := .int t_1.2.1) hx hb hg hin_M hown hK hP 0 rfl rfl 26 (by decide) (hg _ gw_520) (fun _ h => h) rfl dM_dueDay_6 ?_
  refine lv_iconst (v := 1) hx hb dM_dueDay_9 (by decide) ?_
  refine lv_isub hx hb dM_dueDay_10 ?_
  refine lv_iload_n hx hb dM_dueDay_11 rfl (lv_at hl 2 rfl) ?_
  refine lv_iadd hx hb dM_dueDay_12 ?_
  refine lv_istore_n hx hb dM_dueDay_13 rfl hl (by decide) rfl (fun ls hl => ?_)
  have hl : lv_has ls 7 [(3, .int ((t_1.2.1 - 1) + kk)), (0, .ref (b 0)), (1, .int start), (2, .int kk)] := hl
  refine lv_aload_n hx hb dM_dueDay_14 rfl (lv_at hl 1 rfl) ?_
  refine va_get (v := .int t_1.1) hx hb hg hin_M hown hK hP 0 rfl rfl 25 (by decide) (hg _ gw_519) (fun _ h => h) rfl dM_dueDay_15 ?_
  refine lv_iload_n hx hb dM_dueDay_18 rfl (lv_at hl 0 rfl) ?_
  refine lv_bipush (v := 12) hx hb dM_dueDay_19 (by decide) ?_
  refine lv_idiv hx hb dM_dueDay_21 (by decide) ?_
  refine lv_iadd hx hb dM_dueDay_22 ?_
  refine lv_istore hx hb dM_dueDay_23 hl (by decide) rfl (fun ls hl => ?_)
  have hl : lv_has ls 7 [(4, .int (t_1.1 + (((t_1.2.1 - 1) + kk) / 12))), (3, .int ((t_1.2.1 - 1) + kk)), (0, .ref (b 0)), (1, .int start), (2, .int kk)] := hl
  refine lv_iload_n hx hb dM_dueDay_25 rfl (lv_at hl 1 rfl) ?_
  refine lv_bipush (v := 12) hx hb dM_dueDay_26 (by decide) ?_
  refine lv_irem hx hb dM_dueDay_28 (by decide) ?_
  refine lv_iconst (v := 1) hx hb dM_dueDay_29 (by decide) ?_
  refine lv_iadd hx hb dM_dueDay_30 ?_
  refine lv_istore hx hb dM_dueDay_31 hl (by decide) rfl (fun ls hl => ?_)
  have hl : lv_has ls 7 [(5, .int ((((t_1.2.1 - 1) + kk) - ((t_1.2.1 - 1) + kk) / 12 * 12) + 1)), (4, .int (t_1.1 + (((t_1.2.1 - 1) + kk) / 12))), (3, .int ((t_1.2.1 - 1) + kk)), (0, .ref (b 0)), (1, .int start), (2, .int kk)] := hl
  refine lv_iload hx hb dM_dueDay_33 (lv_at hl 1 rfl) ?_
  refine lv_iload hx hb dM_dueDay_35 (lv_at hl 0 rfl) ?_
  refine kp_reti (va_runS (As := [.int (t_1.1 + (((t_1.2.1 - 1) + kk) / 12)), .int ((((t_1.2.1 - 1) + kk) - ((t_1.2.1 - 1) + kk) / 12 * 12) + 1)]) (rest := []) ⟨hx, hb, hml, hown, hg⟩ (c_M_daysIn l (t_1.1 + (((t_1.2.1 - 1) + kk) / 12)) ((((t_1.2.1 - 1) + kk) - ((t_1.2.1 - 1) + kk) / 12 * 12) + 1)) ⟨kw_cB (n := 2) hg gw_596 gw_2 gw_594 (by decide +kernel) (by decide +kernel) ⟨Nat.le_of_ble_eq_true rfl, Nat.le_of_ble_eq_true rfl⟩ rfl rfl, hg _ gw_595⟩ kp_pre rfl rfl hl.1 rfl (lv_room (Nat.le_of_ble_eq_true rfl)) dM_dueDay_37 ⟨Nat.le_of_ble_eq_true rfl, Nat.le_of_ble_eq_true rfl⟩) ?_
  refine lv_topi (fun r_3 e_4 => ?_)
  replace e_4 := e_4.symm
  refine lv_istore hx hb dM_dueDay_40 hl (by decide) rfl (fun ls hl => ?_)
  have hl : lv_has ls 7 [(6, .int r_3), (5, .int ((((t_1.2.1 - 1) + kk) - ((t_1.2.1 - 1) + kk) / 12 * 12) + 1)), (4, .int (t_1.1 + (((t_1.2.1 - 1) + kk) / 12))), (3, .int ((t_1.2.1 - 1) + kk)), (0, .ref (b 0)), (1, .int start), (2, .int kk)] := hl
  refine lv_iload hx hb dM_dueDay_42 (lv_at hl 2 rfl) ?_
  refine lv_iload hx hb dM_dueDay_44 (lv_at hl 1 rfl) ?_
  refine lv_aload_n hx hb dM_dueDay_46 rfl (lv_at hl 4 rfl) ?_
  refine va_get (v := .int t_1.2.2) hx hb hg hin_M hown hK hP 0 rfl rfl 27 (by decide) (hg _ gw_521) (fun _ h => h) rfl dM_dueDay_47 ?_
  refine lv_iload hx hb dM_dueDay_50 (lv_at hl 0 rfl) ?_
  refine lv_icmp_ge (tgt := 62) hx hb dM_dueDay_52 (by decide) (fun h5 => ?_) (fun h5 => ?_)
  · skip
    refine lv_iload hx hb dM_dueDay_62 (lv_at hl 0 rfl) ?_
    refine kp_reti (va_runS (As := [.int (t_1.1 + (((t_1.2.1 - 1) + kk) / 12)), .int ((((t_1.2.1 - 1) + kk) - ((t_1.2.1 - 1) + kk) / 12 * 12) + 1), .int r_3]) (rest := []) ⟨hx, hb, hml, hown, hg⟩ (c_M_dayOf l (t_1.1 + (((t_1.2.1 - 1) + kk) / 12)) ((((t_1.2.1 - 1) + kk) - ((t_1.2.1 - 1) + kk) / 12 * 12) + 1) r_3) ⟨kw_cB (n := 3) hg gw_641 gw_2 gw_639 (by decide +kernel) (by decide +kernel) ⟨Nat.le_of_ble_eq_true rfl, Nat.le_of_ble_eq_true rfl⟩ rfl rfl, hg _ gw_640⟩ kp_pre rfl rfl hl.1 rfl (lv_room (Nat.le_of_ble_eq_true rfl)) dM_dueDay_64 ⟨Nat.le_of_ble_eq_true rfl, Nat.le_of_ble_eq_true rfl⟩) ?_
    refine lv_topi (fun r_6 e_7 => ?_)
    replace e_7 := e_7.symm
    have hk9 : kM_dueDay start kk = r_6 := by subst e_2 e_4 e_7; unfold kM_dueDay; rw [if_pos h5]
    exact kx_iret hx hb hr hlocks hK hP hD hS hk9.symm (u := (t_1.1, t_1.2.1, t_1.2.2)) rfl dM_dueDay_67
  · skip
    refine lv_aload_n hx hb dM_dueDay_55 rfl (lv_at hl 4 rfl) ?_
    refine va_get (v := .int t_1.2.2) hx hb hg hin_M hown hK hP 0 rfl rfl 27 (by decide) (hg _ gw_521) (fun _ h => h) rfl dM_dueDay_56 ?_
    refine lv_goto (tgt := 64) hx hb dM_dueDay_59 (by decide) ?_
    refine kp_reti (va_runS (As := [.int (t_1.1 + (((t_1.2.1 - 1) + kk) / 12)), .int ((((t_1.2.1 - 1) + kk) - ((t_1.2.1 - 1) + kk) / 12 * 12) + 1), .int t_1.2.2]) (rest := []) ⟨hx, hb, hml, hown, hg⟩ (c_M_dayOf l (t_1.1 + (((t_1.2.1 - 1) + kk) / 12)) ((((t_1.2.1 - 1) + kk) - ((t_1.2.1 - 1) + kk) / 12 * 12) + 1) t_1.2.2) ⟨kw_cB (n := 3) hg gw_641 gw_2 gw_639 (by decide +kernel) (by decide +kernel) ⟨Nat.le_of_ble_eq_true rfl, Nat.le_of_ble_eq_true rfl⟩ rfl rfl, hg _ gw_640⟩ kp_pre rfl rfl hl.1 rfl (lv_room (Nat.le_of_ble_eq_true rfl)) dM_dueDay_64 ⟨Nat.le_of_ble_eq_true rfl, Nat.le_of_ble_eq_true rfl⟩) ?_
    refine lv_topi (fun r_8 e_9 => ?_)
    replace e_9 := e_9.symm
    have hk9 : kM_dueDay start kk = r_8 := by subst e_2 e_4 e_9; unfold kM_dueDay; rw [if_neg h5]
    exact kx_iret hx hb hr hlocks hK hP hD hS hk9.symm (u := (t_1.1, t_1.2.1, t_1.2.2)) rfl dM_dueDay_67
def kM_date (σ : KS) : Int32 × KS := (((10000 * (kM_find (σ 0 1)).1) + (100 * (kM_find (σ 0 1)).2.1)) + (kM_find (σ 0 1)).2.2, mkM 0 (σ 0 1) (σ 0 2) (σ 0 3) (σ 0 4) (σ 0 5) (σ 1) (σ 2) (σ 3) (σ 4) (σ 5) (σ 6) (σ 7) (σ 8) (σ 9) (σ 10) (σ 11) (σ 12) (σ 13) (σ 14) (σ 15) (σ 16) (σ 17) (σ 18) (σ 19) (σ 20) (σ 21) (σ 22))
abbrev wgM_date : List Cond := .code yM_date cM_date 1 (some .int) :: GW
abbrev rm_M_date : Room := { frames := 3, cells := 0, slots := 0, locals := 63 }
set_option maxRecDepth 100000 in
set_option maxHeartbeats 4000000 in
theorem c_M_date (l : Launch) (D : va_G) (G : Nat → ClassId) (b : Nat → Nat) (σ : KS) (u0 : Int32 × Int32 × Int32)  (sz : Nat)  : Met l yM_date wgM_date rm_M_date (kw_Pc D vwCl (gt G) [.ref (b 0)] (mcells G b (scr σ u0)) sz) (kx_i D vwCl (gt G) (mcells G b (scr σ u0)) sz ((kM_date σ).1) (fun u => mcells G b (scr ((kM_date σ).2) u))) 0 0 (va_A (mcells G b (scr σ u0)) sz) := by
  refine Met.ofW (cc := cM_date) (maxL := 1) (ret := (some .int)) (by decide) rfl ?_
  intro p e s m args below meth c s₁ B hml hv
  have hx := B.exec
  have hb := B.bytes
  have hr := B.returns
  have hts := atoms_spec (ws := wgM_date) B.pre
  have hg : ∀ w ∈ GW, w.before args s = true := fun w h => hts w (List.mem_cons_of_mem _ h)
  have hown : s.vm.findClass RM = some m.cls := findClass_of_methodNamed B.named
  have hlocks := B.notSynchronized
  obtain ⟨hv, hsz, hP, hK, hD0⟩ := hv
  subst hsz
  have hD := hD0.self (sz := s.heap.size)
  have hS : va_S (va_A (mcells G b (scr σ u0)) s.heap.size) s.heap s.heap [] := va_S.rf
  refine kw_entry [.ref (b 0)] hv (Nat.le_of_ble_eq_true rfl) (fun ls hl => ?_)
  have hl : lv_has ls 1 [(0, .ref (b 0))] := hl
  refine lv_aload_n hx hb dM_date_0 rfl (lv_at hl 0 rfl) ?_
  refine lv_iconst (v := 0) hx hb dM_date_1 (by decide) ?_
  refine kw_put (w' := lm G b 0 (σ 0 1) (σ 0 2) u0.1 u0.2.1 u0.2.2 (σ 1) (σ 2) (σ 3) (σ 4) (σ 5) (σ 6) (σ 7) (σ 8) (σ 9) (σ 10) (σ 11) (σ 12) (σ 13) (σ 14) (σ 15) (σ 16) (σ 17) (σ 18) (σ 19) (σ 20) (σ 21) (σ 22)) (v := .int 0) (ty := .int) hx hb hg hin_M tyM tyM_ok nM hown hK hP hD hS 0 rfl rfl 0 (by decide) (hg _ gw_494) (fun _ h => h) rfl (by decide +kernel) rfl rfl (Nat.le_of_ble_eq_true rfl) dM_date_2 rfl (fun H locs hP hD hS => ?_)
  refine lv_aload_n hx hb dM_date_5 rfl (lv_at hl 0 rfl) ?_
  refine lv_aload_n hx hb dM_date_6 rfl (lv_at hl 0 rfl) ?_
  refine va_get (v := .int (σ 0 1)) hx hb hg hin_M hown hK hP 0 rfl rfl 1 (by decide) (hg _ gw_495) (fun _ h => h) rfl dM_date_7 ?_
  refine kw_retv0 (va_runV (C := RM) (As := [.int (σ 0 1)]) (rest := []) ⟨hx, hb, hml, hown, hg⟩ (c_M_find l D G b (mkM 0 (σ 0 1) (σ 0 2) (σ 0 3) (σ 0 4) (σ 0 5) (σ 1) (σ 2) (σ 3) (σ 4) (σ 5) (σ 6) (σ 7) (σ 8) (σ 9) (σ 10) (σ 11) (σ 12) (σ 13) (σ 14) (σ 15) (σ 16) (σ 17) (σ 18) (σ 19) (σ 20) (σ 21) (σ 22)) (u0.1, u0.2.1, u0.2.2) (σ 0 1) _) ⟨kw_cB (n := 1) hg gw_590 gw_2 gw_588 (by decide +kernel) (by decide +kernel) ⟨Nat.le_of_ble_eq_true rfl, Nat.le_of_ble_eq_true rfl⟩ rfl rfl, hg _ gw_589, hg _ gw_743⟩ (kw_preV (q0 := 0) hK hP hD rfl rfl) rfl rfl hl.1 rfl (lv_room (Nat.le_of_ble_eq_true rfl)) dM_date_10 ⟨Nat.le_of_ble_eq_true rfl, Nat.le_of_ble_eq_true rfl⟩) hP hD hS (fun _ h => Or.inr h) (fun H locs hP hD hS => ?_)
  obtain ⟨t_1, e_2⟩ : ∃ z : Int32 × Int32 × Int32, kM_find (σ 0 1) = z := ⟨_, rfl⟩
  rw [e_2] at hP hD
  refine lv_sipush (v := 10000) hx hb dM_date_13 (by decide) ?_
  refine lv_aload_n hx hb dM_date_16 rfl (lv_at hl 0 rfl) ?_
  refine va_get (v := .int t_1.1) hx hb hg hin_M hown hK hP 0 rfl rfl 25 (by decide) (hg _ gw_519) (fun _ h => h) rfl dM_date_17 ?_
  refine lv_imul hx hb dM_date_20 ?_
  refine lv_bipush (v := 100) hx hb dM_date_21 (by decide) ?_
  refine lv_aload_n hx hb dM_date_23 rfl (lv_at hl 0 rfl) ?_
  refine va_get (v := .int t_1.2.1) hx hb hg hin_M hown hK hP 0 rfl rfl 26 (by decide) (hg _ gw_520) (fun _ h => h) rfl dM_date_24 ?_
  refine lv_imul hx hb dM_date_27 ?_
  refine lv_iadd hx hb dM_date_28 ?_
  refine lv_aload_n hx hb dM_date_29 rfl (lv_at hl 0 rfl) ?_
  refine va_get (v := .int t_1.2.2) hx hb hg hin_M hown hK hP 0 rfl rfl 27 (by decide) (hg _ gw_521) (fun _ h => h) rfl dM_date_30 ?_
  refine lv_iadd hx hb dM_date_33 ?_
  have hk9 : kM_date σ = (((10000 * t_1.1) + (100 * t_1.2.1)) + t_1.2.2, mkM 0 (σ 0 1) (σ 0 2) (σ 0 3) (σ 0 4) (σ 0 5) (σ 1) (σ 2) (σ 3) (σ 4) (σ 5) (σ 6) (σ 7) (σ 8) (σ 9) (σ 10) (σ 11) (σ 12) (σ 13) (σ 14) (σ 15) (σ 16) (σ 17) (σ 18) (σ 19) (σ 20) (σ 21) (σ 22)) := by subst e_2; rfl
  exact kx_iret hx hb hr hlocks hK hP hD hS (by rw [hk9]) (u := (t_1.1, t_1.2.1, t_1.2.2)) (by rw [hk9] <;> rfl) dM_date_34
