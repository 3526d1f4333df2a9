/-! a loan's level -/
def lf_left (σ : KS) (amount : Int32) (tried : Int32) (count : Int32) : Nat → Int32 → Int32 → Int32
  | 0, _, _ => 0
  | n + 1, left, i => if count ≤ i then left else (if (36 : Int32) ≤ i then left else (if (tried - (kC_interestOn left (σ 0 10) (σ 3 i.toNatClampNeg) (σ 0 12) (σ 0 13))) ≤ (0 : Int32) then (lf_left σ amount tried count n left (i + 1)) else (lf_left σ amount tried count n (left - (kmin (tried - (kC_interestOn left (σ 0 10) (σ 3 i.toNatClampNeg) (σ 0 12) (σ 0 13))) left)) (i + 1))))
def lok_left (σ : KS) (amount : Int32) (tried : Int32) (count : Int32) : Nat → Int32 → Int32 → Bool
  | 0, _, _ => false
  | n + 1, left, i => if count ≤ i then true else (if (36 : Int32) ≤ i then true else (if (tried - (kC_interestOn left (σ 0 10) (σ 3 i.toNatClampNeg) (σ 0 12) (σ 0 13))) ≤ (0 : Int32) then (lok_left σ amount tried count n left (i + 1)) else (lok_left σ amount tried count n (left - (kmin (tried - (kC_interestOn left (σ 0 10) (σ 3 i.toNatClampNeg) (σ 0 12) (σ 0 13))) left)) (i + 1))))
def kN_leftInTheEnd (σ : KS) (amount : Int32) (tried : Int32) (count : Int32) : Int32 := lf_left σ amount tried count 37 amount (0 : Int32)
abbrev wgN_leftInTheEnd : List Cond := .code yN_leftInTheEnd cN_leftInTheEnd 7 (some .int) :: GW
abbrev rm_N_leftInTheEnd : Room := { frames := 2, cells := 0, slots := 0, locals := 53 }
theorem lok_left_ok (σ : KS) (amount tried count : Int32) : ∀ (n k : Nat) (left : Int32), 36 ≤ k + n → k ≤ 36 → lok_left σ amount tried count (n + 1) left (nI k) = true := by
  intro n
  induction n with
  | zero =>
    intro k left h1 h2
    have hk : k = 36 := by omega
    subst hk
    unfold lok_left
    split
    · rfl
    · rw [if_pos (show (36 : Int32) ≤ nI 36 by decide)]
  | succ n ih =>
    intro k left h1 h2
    unfold lok_left
    split
    · rfl
    · split
      · rfl
      · rename_i h3
        have hk : k < 36 := by
          rcases Nat.lt_or_ge k 36 with q | q
          · exact q
          · exact absurd (nI_le (a := 36) (b := k) q (by omega)) h3
        split
        · rw [nI_1]; exact ih _ _ (by omega) (by omega)
        · rw [nI_1]; exact ih _ _ (by omega) (by omega)
set_option maxRecDepth 100000 in
set_option maxHeartbeats 4000000 in
theorem c_N_leftInTheEnd (l : Launch) (D : va_G) (G : Nat → ClassId) (a : Nat → Nat) (σ : KS) (amount : Int32) (tried : Int32) (count : Int32) (sz : Nat)  : Met l yN_leftInTheEnd wgN_leftInTheEnd rm_N_leftInTheEnd (kw_Pc D vwCl (gt G) [.ref (a 0), .int amount, .int tried, .int count] (lcells G a σ) sz) (kw_i D vwCl (gt G) (lcells G a σ) sz (kN_leftInTheEnd σ amount tried count) (lcells G a σ)) 0 0 (va_A (lcells G a σ) sz) := by
  refine Met.ofW (cc := cN_leftInTheEnd) (maxL := 7) (ret := (some .int)) (by decide) rfl ?_
  intro p e s m args below meth c s₁ B hml hv
  have hx := B.exec
  have hb := B.bytes
  have hr := B.returns
  have hts := atoms_spec (ws := wgN_leftInTheEnd) B.pre
  have hg : ∀ w ∈ GW, w.before args s = true := fun w h => hts w (List.mem_cons_of_mem _ h)
  have hown : s.vm.findClass RN = some m.cls := findClass_of_methodNamed B.named
  have hlocks := B.notSynchronized
  obtain ⟨hv, hsz, hP, hK, hD0⟩ := hv
  subst hsz
  have hD := hD0.self (sz := s.heap.size)
  have hS : va_S (va_A (lcells G a σ) s.heap.size) s.heap s.heap [] := va_S.rf
  refine kw_entry [.ref (a 0), .int amount, .int tried, .int count] hv (Nat.le_of_ble_eq_true rfl) (fun ls hl => ?_)
  have hl : lv_has ls 7 [(0, .ref (a 0)), (1, .int amount), (2, .int tried), (3, .int count)] := hl
  refine lv_iload_n hx hb dN_leftInTheEnd_0 rfl (lv_at hl 1 rfl) ?_
  refine lv_istore hx hb dN_leftInTheEnd_1 hl (by decide) rfl (fun ls hl => ?_)
  have hl : lv_has ls 7 [(4, .int amount), (0, .ref (a 0)), (1, .int amount), (2, .int tried), (3, .int count)] := hl
  refine lv_iconst (v := 0) hx hb dN_leftInTheEnd_3 (by decide) ?_
  refine lv_istore hx hb dN_leftInTheEnd_4 hl (by decide) rfl (fun ls hl => ?_)
  have hl : lv_has ls 7 [(5, .int 0), (4, .int amount), (0, .ref (a 0)), (1, .int amount), (2, .int tried), (3, .int count)] := hl
  have loop : ∀ (n : Nat) (left : Int32) (i : Int32) (ls : Array Slot) (H : Heap) (locs : List Loc), lok_left σ amount tried count n left i = true → lf_left σ amount tried count n left i = kN_leftInTheEnd σ amount tried count → kn_in i 36 → lv_has ls 7 [(5, .int i), (4, .int left), (0, .ref (a 0)), (1, .int amount), (2, .int tried), (3, .int count)] → va_P D vwCl (lcells G a σ) H → va_D (va_A (lcells G a σ) s.heap.size) (lcells G a σ) → va_S (va_A (lcells G a σ) s.heap.size) s.heap H locs → W p l e (headSpec wgN_leftInTheEnd rm_N_leftInTheEnd).room s m args below meth c H locs 0 0 (MQ below (kw_i D vwCl (gt G) (lcells G a σ) s.heap.size (kN_leftInTheEnd σ amount tried count) (lcells G a σ)) args s 0 0 (va_A (lcells G a σ) s.heap.size)) (F0 m 6 ls []) := by
    intro n
    induction n with
    | zero => intro left i ls H locs hok; exact absurd hok (by unfold lok_left; decide)
    | succ n ih =>
      intro left i ls H locs hok hk hi hl hP hD hS
      refine lv_iload hx hb dN_leftInTheEnd_6 (lv_at hl 0 rfl) ?_
      refine lv_iload_n hx hb dN_leftInTheEnd_8 rfl (lv_at hl 5 rfl) ?_
      refine lv_icmp_ge (tgt := 82) hx hb dN_leftInTheEnd_9 (by decide) (fun h1 => ?_) (fun h1 => ?_)
      · skip
        refine lv_iload hx hb dN_leftInTheEnd_82 (lv_at hl 1 rfl) ?_
        have hk9 : kN_leftInTheEnd σ amount tried count = left := by rw [← hk, lf_left, if_pos h1]
        exact kw_iret hx hb hr hlocks hK hP hD hS ⟨hk9.symm, rfl⟩ dN_leftInTheEnd_84
      · skip
        refine lv_iload hx hb dN_leftInTheEnd_12 (lv_at hl 0 rfl) ?_
        refine lv_aload_n hx hb dN_leftInTheEnd_14 rfl (lv_at hl 2 rfl) ?_
        refine va_get (v := .ref (a 6)) hx hb hg hin_N hown hK hP 0 rfl rfl 12 (by decide) (hg _ gw_234) (fun _ h => h) rfl dN_leftInTheEnd_15 ?_
        refine va_alen (v := 36) hx hb hK hP 6 0 rfl rfl rfl dN_leftInTheEnd_18 ?_
        refine lv_icmp_ge (tgt := 82) hx hb dN_leftInTheEnd_19 (by decide) (fun h2 => ?_) (fun h2 => ?_)
        · skip
          refine lv_iload hx hb dN_leftInTheEnd_82 (lv_at hl 1 rfl) ?_
          have hk9 : kN_leftInTheEnd σ amount tried count = left := by rw [← hk, lf_left, if_neg h1, if_pos h2]
          exact kw_iret hx hb hr hlocks hK hP hD hS ⟨hk9.symm, rfl⟩ dN_leftInTheEnd_84
        · skip
          refine lv_iload_n hx hb dN_leftInTheEnd_22 rfl (lv_at hl 4 rfl) ?_
          refine lv_iload hx hb dN_leftInTheEnd_23 (lv_at hl 1 rfl) ?_
          refine lv_aload_n hx hb dN_leftInTheEnd_25 rfl (lv_at hl 2 rfl) ?_
          refine va_get (v := .ref (a 1)) hx hb hg hin_N hown hK hP 0 rfl rfl 0 (by decide) (hg _ gw_214) (fun _ h => h) rfl dN_leftInTheEnd_26 ?_
          refine va_get (v := .int (σ 0 10)) hx hb hg hin_T hown hK hP 1 rfl rfl 0 (by decide) (hg _ gw_141) (fun _ h => h) rfl dN_leftInTheEnd_29 ?_
          refine lv_aload_n hx hb dN_leftInTheEnd_32 rfl (lv_at hl 2 rfl) ?_
          refine va_get (v := .ref (a 6)) hx hb hg hin_N hown hK hP 0 rfl rfl 12 (by decide) (hg _ gw_234) (fun _ h => h) rfl dN_leftInTheEnd_33 ?_
          refine lv_iload hx hb dN_leftInTheEnd_36 (lv_at hl 0 rfl) ?_
          refine kw_iald (v := σ 3 i.toNatClampNeg) (j := i.toNatClampNeg) hx hb hK hP 6 0 rfl rfl (kn_at hi h2 (by decide)) rfl rfl dN_leftInTheEnd_38 ?_
          refine lv_aload_n hx hb dN_leftInTheEnd_39 rfl (lv_at hl 2 rfl) ?_
          refine va_get (v := .ref (a 1)) hx hb hg hin_N hown hK hP 0 rfl rfl 0 (by decide) (hg _ gw_214) (fun _ h => h) rfl dN_leftInTheEnd_40 ?_
          refine va_get (v := .int (σ 0 12)) hx hb hg hin_T hown hK hP 1 rfl rfl 2 (by decide) (hg _ gw_145) (fun _ h => h) rfl dN_leftInTheEnd_43 ?_
          refine lv_aload_n hx hb dN_leftInTheEnd_46 rfl (lv_at hl 2 rfl) ?_
          refine va_get (v := .ref (a 1)) hx hb hg hin_N hown hK hP 0 rfl rfl 0 (by decide) (hg _ gw_214) (fun _ h => h) rfl dN_leftInTheEnd_47 ?_
          refine va_get (v := .int (σ 0 13)) hx hb hg hin_T hown hK hP 1 rfl rfl 3 (by decide) (hg _ gw_147) (fun _ h => h) rfl dN_leftInTheEnd_50 ?_
          refine kp_reti (va_runS (As := [.int left, .int (σ 0 10), .int (σ 3 i.toNatClampNeg), .int (σ 0 12), .int (σ 0 13)]) (rest := [.int tried]) ⟨hx, hb, hml, hown, hg⟩ (c_C_interestOn l left (σ 0 10) (σ 3 i.toNatClampNeg) (σ 0 12) (σ 0 13)) ⟨kw_cB (n := 5) hg gw_284 gw_15 gw_282 (by decide +kernel) (by decide +kernel) ⟨Nat.le_of_ble_eq_true rfl, Nat.le_of_ble_eq_true rfl⟩ rfl rfl, hg _ gw_283⟩ kp_pre rfl rfl hl.1 rfl (lv_room (Nat.le_of_ble_eq_true rfl)) dN_leftInTheEnd_53 ⟨Nat.le_of_ble_eq_true rfl, Nat.le_of_ble_eq_true rfl⟩) ?_
          refine lv_topi (fun r_3 e_4 => ?_)
          replace e_4 := e_4.symm
          refine lv_isub hx hb dN_leftInTheEnd_56 ?_
          refine lv_istore hx hb dN_leftInTheEnd_57 hl (by decide) rfl (fun ls hl => ?_)
          have hl : lv_has ls 7 [(6, .int (tried - r_3)), (5, .int i), (4, .int left), (0, .ref (a 0)), (1, .int amount), (2, .int tried), (3, .int count)] := hl
          refine lv_iload hx hb dN_leftInTheEnd_59 (lv_at hl 0 rfl) ?_
          refine lv_if_le (tgt := 76) hx hb dN_leftInTheEnd_61 (by decide) (fun h5 => ?_) (fun h5 => ?_)
          · skip
            refine lv_iinc (v := i + 1) hx hb dN_leftInTheEnd_76 hl (k := 1) rfl (by first | rfl | decide) (by decide) rfl (fun ls hl => ?_)
            have hl : lv_has ls 7 [(5, .int (i + 1)), (6, .int (tried - r_3)), (4, .int left), (0, .ref (a 0)), (1, .int amount), (2, .int tried), (3, .int count)] := hl
            refine lv_goto (tgt := 6) hx hb dN_leftInTheEnd_79 (by decide) ?_
            exact ih left (i + 1) _ _ _ (by subst e_4; rw [← hok, lok_left, if_neg h1, if_neg h2, if_pos h5]) (by subst e_4; rw [← hk, lf_left, if_neg h1, if_neg h2, if_pos h5]) (kn_s hi h2 (by decide)) (lv_sub hl [0, 2, 3, 4, 5, 6] rfl) hP hD hS
          · skip
            refine lv_iload hx hb dN_leftInTheEnd_64 (lv_at hl 2 rfl) ?_
            refine lv_iload hx hb dN_leftInTheEnd_66 (lv_at hl 0 rfl) ?_
            refine lv_iload hx hb dN_leftInTheEnd_68 (lv_at hl 2 rfl) ?_
            refine kw_mmin hx hb (hml.trans hl.1.symm) hown (hg _ gw_297) (hg _ gw_212) (hg _ gw_13) (hg _ gw_213) (Nat.le_of_ble_eq_true rfl) (Nat.le_of_ble_eq_true rfl) (Nat.zero_le _) (Nat.zero_le _) dN_leftInTheEnd_70 ?_
            refine lv_isub hx hb dN_leftInTheEnd_73 ?_
            refine lv_istore hx hb dN_leftInTheEnd_74 hl (by decide) rfl (fun ls hl => ?_)
            have hl : lv_has ls 7 [(4, .int (left - (kmin (tried - r_3) left))), (6, .int (tried - r_3)), (5, .int i), (0, .ref (a 0)), (1, .int amount), (2, .int tried), (3, .int count)] := hl
            refine lv_iinc (v := i + 1) hx hb dN_leftInTheEnd_76 hl (k := 2) rfl (by first | rfl | decide) (by decide) rfl (fun ls hl => ?_)
            have hl : lv_has ls 7 [(5, .int (i + 1)), (4, .int (left - (kmin (tried - r_3) left))), (6, .int (tried - r_3)), (0, .ref (a 0)), (1, .int amount), (2, .int tried), (3, .int count)] := hl
            refine lv_goto (tgt := 6) hx hb dN_leftInTheEnd_79 (by decide) ?_
            exact ih (left - (kmin (tried - r_3) left)) (i + 1) _ _ _ (by subst e_4; rw [← hok, lok_left, if_neg h1, if_neg h2, if_neg h5]) (by subst e_4; rw [← hk, lf_left, if_neg h1, if_neg h2, if_neg h5]) (kn_s hi h2 (by decide)) (lv_sub hl [0, 1, 3, 4, 5, 6] rfl) hP hD hS
  exact loop 37 amount (0 : Int32) _ _ _ (lok_left_ok σ amount tried count 36 0 amount (by decide) (by decide)) (by rfl) kn_0 (lv_sub hl [0, 1, 2, 3, 4, 5] rfl) hP hD hS
def lf_least (σ : KS) (amount : Int32) (count : Int32) : Nat → Int32 → Int32 → Int32 → Int32
  | 0, _, _, _ => 0
  | n + 1, tooLow, enough, step => if (32 : Int32) ≤ step then enough else (if (enough - tooLow) ≤ (1 : Int32) then enough else (if (kN_leftInTheEnd σ amount (tooLow + ((enough - tooLow) / 2)) count) ≤ (0 : Int32) then (lf_least σ amount count n tooLow (tooLow + ((enough - tooLow) / 2)) (step + 1)) else (lf_least σ amount count n (tooLow + ((enough - tooLow) / 2)) enough (step + 1))))
def lok_least (σ : KS) (amount : Int32) (count : Int32) : Nat → Int32 → Int32 → Int32 → Bool
  | 0, _, _, _ => false
  | n + 1, tooLow, enough, step => if (32 : Int32) ≤ step then true else (if (enough - tooLow) ≤ (1 : Int32) then true else (if (kN_leftInTheEnd σ amount (tooLow + ((enough - tooLow) / 2)) count) ≤ (0 : Int32) then (lok_least σ amount count n tooLow (tooLow + ((enough - tooLow) / 2)) (step + 1)) else (lok_least σ amount count n (tooLow + ((enough - tooLow) / 2)) enough (step + 1))))
def kN_leastLevel (σ : KS) (amount : Int32) (count : Int32) : Int32 := lf_least σ amount count 33 (0 : Int32) (amount + (kC_interestOn amount (σ 0 10) (σ 3 0) (σ 0 12) (σ 0 13))) (0 : Int32)
abbrev wgN_leastLevel : List Cond := .code yN_leastLevel cN_leastLevel 7 (some .int) :: GW
abbrev rm_N_leastLevel : Room := { frames := 3, cells := 0, slots := 0, locals := 79 }
theorem lok_least_ok (σ : KS) (amount count : Int32) : ∀ (n k : Nat) (x y : Int32), 32 ≤ k + n → k ≤ 32 → lok_least σ amount count (n + 1) x y (nI k) = true := by
  intro n
  induction n with
  | zero =>
    intro k x y h1 h2
    have hk : k = 32 := by omega
    subst hk
    unfold lok_least
    rw [if_pos (show (32 : Int32) ≤ nI 32 by decide)]
  | succ n ih =>
    intro k x y h1 h2
    unfold lok_least
    split
    · rfl
    · rename_i h3
      have hk : k < 32 := by
        rcases Nat.lt_or_ge k 32 with q | q
        · exact q
        · exact absurd (nI_le (a := 32) (b := k) q (by omega)) h3
      split
      · rfl
      · split
        · rw [nI_1]; exact ih _ _ _ (by omega) (by omega)
        · rw [nI_1]; exact ih _ _ _ (by omega) (by omega)
set_option maxRecDepth 100000 in
set_option maxHeartbeats 4000000 in
theorem c_N_leastLevel (l : Launch) (D : va_G) (G : Nat → ClassId) (a : Nat → Nat) (σ : KS) (amount : Int32) (count : Int32) (sz : Nat)  : Met l yN_leastLevel wgN_leastLevel rm_N_leastLevel (kw_Pc D vwCl (gt G) [.ref (a 0), .int amount, .int count] (lcells G a σ) sz) (kw_i D vwCl (gt G) (lcells G a σ) sz (kN_leastLevel σ amount count) (lcells G a σ)) 0 0 (va_A (lcells G a σ) sz) := by
  refine Met.ofW (cc := cN_leastLevel) (maxL := 7) (ret := (some .int)) (by decide) rfl ?_
  intro p e s m args below meth c s₁ B hml hv
  have hx := B.exec
  have hb := B.bytes
  have hr := B.returns
  have hts := atoms_spec (ws := wgN_leastLevel) B.pre
  have hg : ∀ w ∈ GW, w.before args s = true := fun w h => hts w (List.mem_cons_of_mem _ h)
  have hown : s.vm.findClass RN = some m.cls := findClass_of_methodNamed B.named
  have hlocks := B.notSynchronized
  obtain ⟨hv, hsz, hP, hK, hD0⟩ := hv
  subst hsz
  have hD := hD0.self (sz := s.heap.size)
  have hS : va_S (va_A (lcells G a σ) s.heap.size) s.heap s.heap [] := va_S.rf
  refine kw_entry [.ref (a 0), .int amount, .int count] hv (Nat.le_of_ble_eq_true rfl) (fun ls hl => ?_)
  have hl : lv_has ls 7 [(0, .ref (a 0)), (1, .int amount), (2, .int count)] := hl
  refine lv_iconst (v := 0) hx hb dN_leastLevel_0 (by decide) ?_
  refine lv_istore_n hx hb dN_leastLevel_1 rfl hl (by decide) rfl (fun ls hl => ?_)
  have hl : lv_has ls 7 [(3, .int 0), (0, .ref (a 0)), (1, .int amount), (2, .int count)] := hl
  refine lv_iload_n hx hb dN_leastLevel_2 rfl (lv_at hl 2 rfl) ?_
  refine lv_iload_n hx hb dN_leastLevel_3 rfl (lv_at hl 2 rfl) ?_
  refine lv_aload_n hx hb dN_leastLevel_4 rfl (lv_at hl 1 rfl) ?_
  refine va_get (v := .ref (a 1)) hx hb hg hin_N hown hK hP 0 rfl rfl 0 (by decide) (hg _ gw_214) (fun _ h => h) rfl dN_leastLevel_5 ?_
  refine va_get (v := .int (σ 0 10)) hx hb hg hin_T hown hK hP 1 rfl rfl 0 (by decide) (hg _ gw_141) (fun _ h => h) rfl dN_leastLevel_8 ?_
  refine lv_aload_n hx hb dN_leastLevel_11 rfl (lv_at hl 1 rfl) ?_
  refine va_get (v := .ref (a 6)) hx hb hg hin_N hown hK hP 0 rfl rfl 12 (by decide) (hg _ gw_234) (fun _ h => h) rfl dN_leastLevel_12 ?_
  refine lv_iconst (v := 0) hx hb dN_leastLevel_15 (by decide) ?_
  refine kw_iald (v := σ 3 0) (j := 0) hx hb hK hP 6 0 rfl rfl (by unfold vp_in; decide) rfl rfl dN_leastLevel_16 ?_
  refine lv_aload_n hx hb dN_leastLevel_17 rfl (lv_at hl 1 rfl) ?_
  refine va_get (v := .ref (a 1)) hx hb hg hin_N hown hK hP 0 rfl rfl 0 (by decide) (hg _ gw_214) (fun _ h => h) rfl dN_leastLevel_18 ?_
  refine va_get (v := .int (σ 0 12)) hx hb hg hin_T hown hK hP 1 rfl rfl 2 (by decide) (hg _ gw_145) (fun _ h => h) rfl dN_leastLevel_21 ?_
  refine lv_aload_n hx hb dN_leastLevel_24 rfl (lv_at hl 1 rfl) ?_
  refine va_get (v := .ref (a 1)) hx hb hg hin_N hown hK hP 0 rfl rfl 0 (by decide) (hg _ gw_214) (fun _ h => h) rfl dN_leastLevel_25 ?_
  refine va_get (v := .int (σ 0 13)) hx hb hg hin_T hown hK hP 1 rfl rfl 3 (by decide) (hg _ gw_147) (fun _ h => h) rfl dN_leastLevel_28 ?_
  refine kp_reti (va_runS (As := [.int amount, .int (σ 0 10), .int (σ 3 0), .int (σ 0 12), .int (σ 0 13)]) (rest := [.int amount]) ⟨hx, hb, hml, hown, hg⟩ (c_C_interestOn l amount (σ 0 10) (σ 3 0) (σ 0 12) (σ 0 13)) ⟨kw_cB (n := 5) hg gw_284 gw_15 gw_282 (by decide +kernel) (by decide +kernel) ⟨Nat.le_of_ble_eq_true rfl, Nat.le_of_ble_eq_true rfl⟩ rfl rfl, hg _ gw_283⟩ kp_pre rfl rfl hl.1 rfl (lv_room (Nat.le_of_ble_eq_true rfl)) dN_leastLevel_31 ⟨Nat.le_of_ble_eq_true rfl, Nat.le_of_ble_eq_true rfl⟩) ?_
  refine lv_topi (fun r_1 e_2 => ?_)
  replace e_2 := e_2.symm
  refine lv_iadd hx hb dN_leastLevel_34 ?_
  refine lv_istore hx hb dN_leastLevel_35 hl (by decide) rfl (fun ls hl => ?_)
  have hl : lv_has ls 7 [(4, .int (amount + r_1)), (3, .int 0), (0, .ref (a 0)), (1, .int amount), (2, .int count)] := hl
  refine lv_iconst (v := 0) hx hb dN_leastLevel_37 (by decide) ?_
  refine lv_istore hx hb dN_leastLevel_38 hl (by decide) rfl (fun ls hl => ?_)
  have hl : lv_has ls 7 [(5, .int 0), (4, .int (amount + r_1)), (3, .int 0), (0, .ref (a 0)), (1, .int amount), (2, .int count)] := hl
  have loop : ∀ (n : Nat) (tooLow : Int32) (enough : Int32) (step : Int32) (ls : Array Slot) (H : Heap) (locs : List Loc), lok_least σ amount count n tooLow enough step = true → lf_least σ amount count n tooLow enough step = kN_leastLevel σ amount count → lv_has ls 7 [(5, .int step), (4, .int enough), (3, .int tooLow), (0, .ref (a 0)), (1, .int amount), (2, .int count)] → va_P D vwCl (lcells G a σ) H → va_D (va_A (lcells G a σ) s.heap.size) (lcells G a σ) → va_S (va_A (lcells G a σ) s.heap.size) s.heap H locs → W p l e (headSpec wgN_leastLevel rm_N_leastLevel).room s m args below meth c H locs 0 0 (MQ below (kw_i D vwCl (gt G) (lcells G a σ) s.heap.size (kN_leastLevel σ amount count) (lcells G a σ)) args s 0 0 (va_A (lcells G a σ) s.heap.size)) (F0 m 40 ls []) := by
    intro n
    induction n with
    | zero => intro tooLow enough step ls H locs hok; exact absurd hok (by unfold lok_least; decide)
    | succ n ih =>
      intro tooLow enough step ls H locs hok hk hl hP hD hS
      refine lv_iload hx hb dN_leastLevel_40 (lv_at hl 0 rfl) ?_
      refine lv_bipush (v := 32) hx hb dN_leastLevel_42 (by decide) ?_
      refine lv_icmp_ge (tgt := 92) hx hb dN_leastLevel_44 (by decide) (fun h3 => ?_) (fun h3 => ?_)
      · skip
        refine lv_iload hx hb dN_leastLevel_92 (lv_at hl 1 rfl) ?_
        have hk9 : kN_leastLevel σ amount count = enough := by rw [← hk, lf_least, if_pos h3]
        exact kw_iret hx hb hr hlocks hK hP hD hS ⟨hk9.symm, rfl⟩ dN_leastLevel_94
      · skip
        refine lv_iload hx hb dN_leastLevel_47 (lv_at hl 1 rfl) ?_
        refine lv_iload_n hx hb dN_leastLevel_49 rfl (lv_at hl 2 rfl) ?_
        refine lv_isub hx hb dN_leastLevel_50 ?_
        refine lv_iconst (v := 1) hx hb dN_leastLevel_51 (by decide) ?_
        refine lv_icmp_le (tgt := 92) hx hb dN_leastLevel_52 (by decide) (fun h4 => ?_) (fun h4 => ?_)
        · skip
          refine lv_iload hx hb dN_leastLevel_92 (lv_at hl 1 rfl) ?_
          have hk9 : kN_leastLevel σ amount count = enough := by rw [← hk, lf_least, if_neg h3, if_pos h4]
          exact kw_iret hx hb hr hlocks hK hP hD hS ⟨hk9.symm, rfl⟩ dN_leastLevel_94
        · skip
          refine lv_iload_n hx hb dN_leastLevel_55 rfl (lv_at hl 2 rfl) ?_
          refine lv_iload hx hb dN_leastLevel_56 (lv_at hl 1 rfl) ?_
          refine lv_iload_n hx hb dN_leastLevel_58 rfl (lv_at hl 2 rfl) ?_
          refine lv_isub hx hb dN_leastLevel_59 ?_
          refine lv_iconst (v := 2) hx hb dN_leastLevel_60 (by decide) ?_
          refine lv_idiv hx hb dN_leastLevel_61 (by decide) ?_
          refine lv_iadd hx hb dN_leastLevel_62 ?_
          refine lv_istore hx hb dN_leastLevel_63 hl (by decide) rfl (fun ls hl => ?_)
          have hl : lv_has ls 7 [(6, .int (tooLow + ((enough - tooLow) / 2))), (5, .int step), (4, .int enough), (3, .int tooLow), (0, .ref (a 0)), (1, .int amount), (2, .int count)] := hl
          refine lv_aload_n hx hb dN_leastLevel_65 rfl (lv_at hl 4 rfl) ?_
          refine lv_iload_n hx hb dN_leastLevel_66 rfl (lv_at hl 5 rfl) ?_
          refine lv_iload hx hb dN_leastLevel_67 (lv_at hl 0 rfl) ?_
          refine lv_iload_n hx hb dN_leastLevel_69 rfl (lv_at hl 6 rfl) ?_
          refine kw_reti0 (va_runV (C := RN) (As := [.int amount, .int (tooLow + ((enough - tooLow) / 2)), .int count]) (rest := []) ⟨hx, hb, hml, hown, hg⟩ (c_N_leftInTheEnd l D G a σ amount (tooLow + ((enough - tooLow) / 2)) count _) ⟨kw_cB (n := 3) hg gw_296 gw_10 gw_294 (by decide +kernel) (by decide +kernel) ⟨Nat.le_of_ble_eq_true rfl, Nat.le_of_ble_eq_true rfl⟩ rfl rfl, hg _ gw_295, hg _ gw_736⟩ (kw_preV (q0 := 0) hK hP hD rfl rfl) rfl rfl hl.1 rfl (lv_room (Nat.le_of_ble_eq_true rfl)) dN_leastLevel_70 ⟨Nat.le_of_ble_eq_true rfl, Nat.le_of_ble_eq_true rfl⟩) hP hD hS (fun _ h => Or.inr h) (fun H locs hP hD hS => ?_)
          refine lv_topi (fun r_5 e_6 => ?_)
          replace e_6 := e_6.symm
          refine lv_if_le (tgt := 82) hx hb dN_leastLevel_73 (by decide) (fun h7 => ?_) (fun h7 => ?_)
          · skip
            refine lv_iload hx hb dN_leastLevel_82 (lv_at hl 0 rfl) ?_
            refine lv_istore hx hb dN_leastLevel_84 hl (by decide) rfl (fun ls hl => ?_)
            have hl : lv_has ls 7 [(4, .int (tooLow + ((enough - tooLow) / 2))), (6, .int (tooLow + ((enough - tooLow) / 2))), (5, .int step), (3, .int tooLow), (0, .ref (a 0)), (1, .int amount), (2, .int count)] := hl
            refine lv_iinc (v := step + 1) hx hb dN_leastLevel_86 hl (k := 2) rfl (by first | rfl | decide) (by decide) rfl (fun ls hl => ?_)
            have hl : lv_has ls 7 [(5, .int (step + 1)), (4, .int (tooLow + ((enough - tooLow) / 2))), (6, .int (tooLow + ((enough - tooLow) / 2))), (3, .int tooLow), (0, .ref (a 0)), (1, .int amount), (2, .int count)] := hl
            refine lv_goto (tgt := 40) hx hb dN_leastLevel_89 (by decide) ?_
            exact ih tooLow (tooLow + ((enough - tooLow) / 2)) (step + 1) _ _ _ (by subst e_6; rw [← hok, lok_least, if_neg h3, if_neg h4, if_pos h7]) (by subst e_6; rw [← hk, lf_least, if_neg h3, if_neg h4, if_pos h7]) (lv_sub hl [0, 1, 3, 4, 5, 6] rfl) hP hD hS
          · skip
            refine lv_iload hx hb dN_leastLevel_76 (lv_at hl 0 rfl) ?_
            refine lv_istore_n hx hb dN_leastLevel_78 rfl hl (by decide) rfl (fun ls hl => ?_)
            have hl : lv_has ls 7 [(3, .int (tooLow + ((enough - tooLow) / 2))), (6, .int (tooLow + ((enough - tooLow) / 2))), (5, .int step), (4, .int enough), (0, .ref (a 0)), (1, .int amount), (2, .int count)] := hl
            refine lv_goto (tgt := 86) hx hb dN_leastLevel_79 (by decide) ?_
            refine lv_iinc (v := step + 1) hx hb dN_leastLevel_86 hl (k := 2) rfl (by first | rfl | decide) (by decide) rfl (fun ls hl => ?_)
            have hl : lv_has ls 7 [(5, .int (step + 1)), (3, .int (tooLow + ((enough - tooLow) / 2))), (6, .int (tooLow + ((enough - tooLow) / 2))), (4, .int enough), (0, .ref (a 0)), (1, .int amount), (2, .int count)] := hl
            refine lv_goto (tgt := 40) hx hb dN_leastLevel_89 (by decide) ?_
            exact ih (tooLow + ((enough - tooLow) / 2)) enough (step + 1) _ _ _ (by subst e_6; rw [← hok, lok_least, if_neg h3, if_neg h4, if_neg h7]) (by subst e_6; rw [← hk, lf_least, if_neg h3, if_neg h4, if_neg h7]) (lv_sub hl [0, 3, 1, 4, 5, 6] rfl) hP hD hS
  exact loop 33 (0 : Int32) (amount + r_1) (0 : Int32) _ _ _ (lok_least_ok σ amount count 32 0 _ _ (by decide) (by decide)) (by subst e_2; rfl) (lv_sub hl [0, 1, 2, 3, 4, 5] rfl) hP hD hS
def lf_lay (σ : KS) (today : Int32) : Nat → Int32 → Int32 → Int32 → KS → Int32 × KS
  | 0, _, _, _, S => (0, S)
  | n + 1, count, frm, kk, S => if (S 0 11) < kk then (count, S) else (if (36 : Int32) ≤ count then (count, S) else (lf_lay σ today n (count + 1) (kT_dueDay S kk) (kk + 1) (mkL (S 0 0) (S 0 1) (S 0 2) (S 0 3) (S 0 4) (S 0 5) (S 0 6) (S 0 10) (S 0 11) (S 0 12) (S 0 13) (S 0 14) (S 0 15) (S 0 16) (S 0 20) (S 0 21) (S 0 22) (S 0 30) (S 1) (S 2) (upd (S 3) count.toNatClampNeg (kS_top (S 0 12) frm (kT_dueDay S kk))) (S 4))))
def lok_lay (σ : KS) (today : Int32) : Nat → Int32 → Int32 → Int32 → KS → Bool
  | 0, _, _, _, _ => false
  | n + 1, count, frm, kk, S => if (S 0 11) < kk then true else (if (36 : Int32) ≤ count then true else (lok_lay σ today n (count + 1) (kT_dueDay S kk) (kk + 1) (mkL (S 0 0) (S 0 1) (S 0 2) (S 0 3) (S 0 4) (S 0 5) (S 0 6) (S 0 10) (S 0 11) (S 0 12) (S 0 13) (S 0 14) (S 0 15) (S 0 16) (S 0 20) (S 0 21) (S 0 22) (S 0 30) (S 1) (S 2) (upd (S 3) count.toNatClampNeg (kS_top (S 0 12) frm (kT_dueDay S kk))) (S 4))))
def kN_layOutSpans (σ : KS) (today : Int32) : Int32 × KS := lf_lay σ today 37 (0 : Int32) today ((σ 0 5) + 1) σ
abbrev wgN_layOutSpans : List Cond := .code yN_layOutSpans cN_layOutSpans 6 (some .int) :: GW
abbrev rm_N_layOutSpans : Room := { frames := 3, cells := 0, slots := 0, locals := 68 }
theorem lok_lay_ok (σ : KS) (today : Int32) : ∀ (n k : Nat) (x y : Int32) (S : KS), 36 ≤ k + n → k ≤ 36 → lok_lay σ today (n + 1) (nI k) x y S = true := by
  intro n
  induction n with
  | zero =>
    intro k x y S h1 h2
    have hk : k = 36 := by omega
    subst hk
    unfold lok_lay
    split
    · rfl
    · rw [if_pos (show (36 : Int32) ≤ nI 36 by decide)]
  | succ n ih =>
    intro k x y S h1 h2
    unfold lok_lay
    split
    · rfl
    · split
      · rfl
      · rename_i h3
        have hk : k < 36 := by
          rcases Nat.lt_or_ge k 36 with q | q
          · exact q
          · exact absurd (nI_le (a := 36) (b := k) q (by omega)) h3
        rw [nI_1]; exact ih _ _ _ _ (by omega) (by omega)
set_option maxRecDepth 100000 in
set_option maxHeartbeats 4000000 in
theorem c_N_layOutSpans (l : Launch) (D : va_G) (G : Nat → ClassId) (a : Nat → Nat) (σ : KS) (today : Int32) (sz : Nat)  : Met l yN_layOutSpans wgN_layOutSpans rm_N_layOutSpans (kw_Pc D vwCl (gt G) [.ref (a 0), .int today] (lcells G a σ) sz) (kw_i D vwCl (gt G) (lcells G a σ) sz ((kN_layOutSpans σ today).1) (lcells G a (kN_layOutSpans σ today).2)) 0 0 (va_A (lcells G a σ) sz) := by
  refine Met.ofW (cc := cN_layOutSpans) (maxL := 6) (ret := (some .int)) (by decide) rfl ?_
  intro p e s m args below meth c s₁ B hml hv
  have hx := B.exec
  have hb := B.bytes
  have hr := B.returns
  have hts := atoms_spec (ws := wgN_layOutSpans) B.pre
  have hg : ∀ w ∈ GW, w.before args s = true := fun w h => hts w (List.mem_cons_of_mem _ h)
  have hown : s.vm.findClass RN = some m.cls := findClass_of_methodNamed B.named
  have hlocks := B.notSynchronized
  obtain ⟨hv, hsz, hP, hK, hD0⟩ := hv
  subst hsz
  have hD := hD0.self (sz := s.heap.size)
  have hS : va_S (va_A (lcells G a σ) s.heap.size) s.heap s.heap [] := va_S.rf
  refine kw_entry [.ref (a 0), .int today] hv (Nat.le_of_ble_eq_true rfl) (fun ls hl => ?_)
  have hl : lv_has ls 6 [(0, .ref (a 0)), (1, .int today)] := hl
  refine lv_iconst (v := 0) hx hb dN_layOutSpans_0 (by decide) ?_
  refine lv_istore_n hx hb dN_layOutSpans_1 rfl hl (by decide) rfl (fun ls hl => ?_)
  have hl : lv_has ls 6 [(2, .int 0), (0, .ref (a 0)), (1, .int today)] := hl
  refine lv_iload_n hx hb dN_layOutSpans_2 rfl (lv_at hl 2 rfl) ?_
  refine lv_istore_n hx hb dN_layOutSpans_3 rfl hl (by decide) rfl (fun ls hl => ?_)
  have hl : lv_has ls 6 [(3, .int today), (2, .int 0), (0, .ref (a 0)), (1, .int today)] := hl
  refine lv_aload_n hx hb dN_layOutSpans_4 rfl (lv_at hl 2 rfl) ?_
  refine va_get (v := .int (σ 0 5)) hx hb hg hin_N hown hK hP 0 rfl rfl 10 (by decide) (hg _ gw_232) (fun _ h => h) rfl dN_layOutSpans_5 ?_
  refine lv_iconst (v := 1) hx hb dN_layOutSpans_8 (by decide) ?_
  refine lv_iadd hx hb dN_layOutSpans_9 ?_
  refine lv_istore hx hb dN_layOutSpans_10 hl (by decide) rfl (fun ls hl => ?_)
  have hl : lv_has ls 6 [(4, .int ((σ 0 5) + 1)), (3, .int today), (2, .int 0), (0, .ref (a 0)), (1, .int today)] := hl
  have loop : ∀ (n : Nat) (count : Int32) (frm : Int32) (kk : Int32) (S : KS) (ls : Array Slot) (H : Heap) (locs : List Loc), lok_lay σ today n count frm kk S = true → lf_lay σ today n count frm kk S = kN_layOutSpans σ today → kn_in count 36 → lv_has ls 6 [(4, .int kk), (3, .int frm), (2, .int count), (0, .ref (a 0)), (1, .int today)] → va_P D vwCl (lcells G a S) H → va_D (va_A (lcells G a σ) s.heap.size) (lcells G a S) → va_S (va_A (lcells G a σ) s.heap.size) s.heap H locs → W p l e (headSpec wgN_layOutSpans rm_N_layOutSpans).room s m args below meth c H locs 0 0 (MQ below (kw_i D vwCl (gt G) (lcells G a σ) s.heap.size ((kN_layOutSpans σ today).1) (lcells G a (kN_layOutSpans σ today).2)) args s 0 0 (va_A (lcells G a σ) s.heap.size)) (F0 m 12 ls []) := by
    intro n
    induction n with
    | zero => intro count frm kk S ls H locs hok; exact absurd hok (by unfold lok_lay; decide)
    | succ n ih =>
      intro count frm kk S ls H locs hok hk hi hl hP hD hS
      refine lv_iload hx hb dN_layOutSpans_12 (lv_at hl 0 rfl) ?_
      refine lv_aload_n hx hb dN_layOutSpans_14 rfl (lv_at hl 3 rfl) ?_
      refine va_get (v := .ref (a 1)) hx hb hg hin_N hown hK hP 0 rfl rfl 0 (by decide) (hg _ gw_214) (fun _ h => h) rfl dN_layOutSpans_15 ?_
      refine va_get (v := .int (S 0 11)) hx hb hg hin_T hown hK hP 1 rfl rfl 1 (by decide) (hg _ gw_143) (fun _ h => h) rfl dN_layOutSpans_18 ?_
      refine lv_icmp_gt (tgt := 75) hx hb dN_layOutSpans_21 (by decide) (fun h1 => ?_) (fun h1 => ?_)
      · skip
        refine lv_iload_n hx hb dN_layOutSpans_75 rfl (lv_at hl 2 rfl) ?_
        have hk9 : kN_layOutSpans σ today = (count, S) := by rw [← hk, lf_lay, if_pos h1]
        exact kw_iret hx hb hr hlocks hK hP hD hS (kw_fin (f := lcells G a) (S := S) rfl hk9) dN_layOutSpans_76
      · skip
        refine lv_iload_n hx hb dN_layOutSpans_24 rfl (lv_at hl 2 rfl) ?_
        refine lv_aload_n hx hb dN_layOutSpans_25 rfl (lv_at hl 3 rfl) ?_
        refine va_get (v := .ref (a 6)) hx hb hg hin_N hown hK hP 0 rfl rfl 12 (by decide) (hg _ gw_234) (fun _ h => h) rfl dN_layOutSpans_26 ?_
        refine va_alen (v := 36) hx hb hK hP 6 0 rfl rfl rfl dN_layOutSpans_29 ?_
        refine lv_icmp_ge (tgt := 75) hx hb dN_layOutSpans_30 (by decide) (fun h2 => ?_) (fun h2 => ?_)
        · skip
          refine lv_iload_n hx hb dN_layOutSpans_75 rfl (lv_at hl 2 rfl) ?_
          have hk9 : kN_layOutSpans σ today = (count, S) := by rw [← hk, lf_lay, if_neg h1, if_pos h2]
          exact kw_iret hx hb hr hlocks hK hP hD hS (kw_fin (f := lcells G a) (S := S) rfl hk9) dN_layOutSpans_76
        · skip
          refine lv_aload_n hx hb dN_layOutSpans_33 rfl (lv_at hl 3 rfl) ?_
          refine va_get (v := .ref (a 1)) hx hb hg hin_N hown hK hP 0 rfl rfl 0 (by decide) (hg _ gw_214) (fun _ h => h) rfl dN_layOutSpans_34 ?_
          refine lv_iload hx hb dN_layOutSpans_37 (lv_at hl 0 rfl) ?_
          refine kw_reti0 (va_runV (C := RT) (As := [.int kk]) (rest := []) ⟨hx, hb, hml, hown, hg⟩ (c_T_dueDay l D G a S kk _) ⟨kw_cB (n := 1) hg gw_209 gw_8 gw_206 (by decide +kernel) (by decide +kernel) ⟨Nat.le_of_ble_eq_true rfl, Nat.le_of_ble_eq_true rfl⟩ rfl rfl, hg _ gw_207, hg _ gw_208⟩ (kw_preV (q0 := 1) hK hP hD rfl rfl) rfl rfl hl.1 rfl (lv_room (Nat.le_of_ble_eq_true rfl)) dN_layOutSpans_39 ⟨Nat.le_of_ble_eq_true rfl, Nat.le_of_ble_eq_true rfl⟩) hP hD hS (fun _ h => Or.inr h) (fun H locs hP hD hS => ?_)
          refine lv_topi (fun r_3 e_4 => ?_)
          replace e_4 := e_4.symm
          refine lv_istore hx hb dN_layOutSpans_42 hl (by decide) rfl (fun ls hl => ?_)
          have hl : lv_has ls 6 [(5, .int r_3), (4, .int kk), (3, .int frm), (2, .int count), (0, .ref (a 0)), (1, .int today)] := hl
          refine lv_aload_n hx hb dN_layOutSpans_44 rfl (lv_at hl 4 rfl) ?_
          refine va_get (v := .ref (a 6)) hx hb hg hin_N hown hK hP 0 rfl rfl 12 (by decide) (hg _ gw_234) (fun _ h => h) rfl dN_layOutSpans_45 ?_
          refine lv_iload_n hx hb dN_layOutSpans_48 rfl (lv_at hl 3 rfl) ?_
          refine lv_aload_n hx hb dN_layOutSpans_49 rfl (lv_at hl 4 rfl) ?_
          refine va_get (v := .ref (a 1)) hx hb hg hin_N hown hK hP 0 rfl rfl 0 (by decide) (hg _ gw_214) (fun _ h => h) rfl dN_layOutSpans_50 ?_
          refine va_get (v := .int (S 0 12)) hx hb hg hin_T hown hK hP 1 rfl rfl 2 (by decide) (hg _ gw_145) (fun _ h => h) rfl dN_layOutSpans_53 ?_
          refine lv_iload_n hx hb dN_layOutSpans_56 rfl (lv_at hl 2 rfl) ?_
          refine lv_iload hx hb dN_layOutSpans_57 (lv_at hl 0 rfl) ?_
          refine kp_reti (va_runS (As := [.int (S 0 12), .int frm, .int r_3]) (rest := [.int count, .ref (a 6)]) ⟨hx, hb, hml, hown, hg⟩ (c_S_top l (S 0 12) frm r_3) ⟨kw_cB (n := 3) hg gw_271 gw_14 gw_269 (by decide +kernel) (by decide +kernel) ⟨Nat.le_of_ble_eq_true rfl, Nat.le_of_ble_eq_true rfl⟩ rfl rfl, hg _ gw_270⟩ kp_pre rfl rfl hl.1 rfl (lv_room (Nat.le_of_ble_eq_true rfl)) dN_layOutSpans_59 ⟨Nat.le_of_ble_eq_true rfl, Nat.le_of_ble_eq_true rfl⟩) ?_
          refine lv_topi (fun r_5 e_6 => ?_)
          replace e_6 := e_6.symm
          refine kw_iast (w' := lc G a (S 0 0) (S 0 1) (S 0 2) (S 0 3) (S 0 4) (S 0 5) (S 0 6) (S 0 10) (S 0 11) (S 0 12) (S 0 13) (S 0 14) (S 0 15) (S 0 16) (S 0 20) (S 0 21) (S 0 22) (S 0 30) (S 1) (S 2) (upd (S 3) count.toNatClampNeg r_5) (S 4)) (j := count.toNatClampNeg) hx hb hK hP hD hS 6 0 rfl rfl (kn_at hi h2 (by decide)) rfl dN_layOutSpans_62 rfl (fun H locs hP hD hS => ?_)
          refine lv_iinc (v := count + 1) hx hb dN_layOutSpans_63 hl (k := 3) rfl (by first | rfl | decide) (by decide) rfl (fun ls hl => ?_)
          have hl : lv_has ls 6 [(2, .int (count + 1)), (5, .int r_3), (4, .int kk), (3, .int frm), (0, .ref (a 0)), (1, .int today)] := hl
          refine lv_iload hx hb dN_layOutSpans_66 (lv_at hl 1 rfl) ?_
          refine lv_istore_n hx hb dN_layOutSpans_68 rfl hl (by decide) rfl (fun ls hl => ?_)
          have hl : lv_has ls 6 [(3, .int r_3), (2, .int (count + 1)), (5, .int r_3), (4, .int kk), (0, .ref (a 0)), (1, .int today)] := hl
          refine lv_iinc (v := kk + 1) hx hb dN_layOutSpans_69 hl (k := 3) rfl (by first | rfl | decide) (by decide) rfl (fun ls hl => ?_)
          have hl : lv_has ls 6 [(4, .int (kk + 1)), (3, .int r_3), (2, .int (count + 1)), (5, .int r_3), (0, .ref (a 0)), (1, .int today)] := hl
          refine lv_goto (tgt := 12) hx hb dN_layOutSpans_72 (by decide) ?_
          exact ih (count + 1) r_3 (kk + 1) (mkL (S 0 0) (S 0 1) (S 0 2) (S 0 3) (S 0 4) (S 0 5) (S 0 6) (S 0 10) (S 0 11) (S 0 12) (S 0 13) (S 0 14) (S 0 15) (S 0 16) (S 0 20) (S 0 21) (S 0 22) (S 0 30) (S 1) (S 2) (upd (S 3) count.toNatClampNeg r_5) (S 4)) _ _ _ (by subst e_4 e_6; rw [← hok, lok_lay, if_neg h1, if_neg h2]) (by subst e_4 e_6; rw [← hk, lf_lay, if_neg h1, if_neg h2]) (kn_s hi h2 (by decide)) (lv_sub hl [0, 1, 2, 4, 5] rfl) hP hD hS
  exact loop 37 (0 : Int32) today ((σ 0 5) + 1) σ _ _ _ (lok_lay_ok σ today 36 0 _ _ _ (by decide) (by decide)) (by rfl) kn_0 (lv_sub hl [0, 1, 2, 3, 4] rfl) hP hD hS
def kN_reckonLevel (σ : KS) (today : Int32) : KS := if (0 : Int32) < ((σ 0 1) - (σ 1 2)) then (if ((kN_layOutSpans σ today).1) ≤ (0 : Int32) then ((kN_layOutSpans σ today).2) else (mkL (((kN_layOutSpans σ today).2) 0 0) (((kN_layOutSpans σ today).2) 0 1) (kN_leastLevel ((kN_layOutSpans σ today).2) ((σ 0 1) - (σ 1 2)) ((kN_layOutSpans σ today).1)) (((kN_layOutSpans σ today).2) 0 3) (((kN_layOutSpans σ today).2) 0 4) (((kN_layOutSpans σ today).2) 0 5) (((kN_layOutSpans σ today).2) 0 6) (((kN_layOutSpans σ today).2) 0 10) (((kN_layOutSpans σ today).2) 0 11) (((kN_layOutSpans σ today).2) 0 12) (((kN_layOutSpans σ today).2) 0 13) (((kN_layOutSpans σ today).2) 0 14) (((kN_layOutSpans σ today).2) 0 15) (((kN_layOutSpans σ today).2) 0 16) (((kN_layOutSpans σ today).2) 0 20) (((kN_layOutSpans σ today).2) 0 21) (((kN_layOutSpans σ today).2) 0 22) (((kN_layOutSpans σ today).2) 0 30) (((kN_layOutSpans σ today).2) 1) (((kN_layOutSpans σ today).2) 2) (((kN_layOutSpans σ today).2) 3) (((kN_layOutSpans σ today).2) 4))) else (mkL (σ 0 0) (σ 0 1) 0 (σ 0 3) (σ 0 4) (σ 0 5) (σ 0 6) (σ 0 10) (σ 0 11) (σ 0 12) (σ 0 13) (σ 0 14) (σ 0 15) (σ 0 16) (σ 0 20) (σ 0 21) (σ 0 22) (σ 0 30) (σ 1) (σ 2) (σ 3) (σ 4))
abbrev wgN_reckonLevel : List Cond := .code yN_reckonLevel cN_reckonLevel 4 none :: GW
abbrev rm_N_reckonLevel : Room := { frames := 4, cells := 0, slots := 0, locals := 105 }
set_option maxRecDepth 100000 in
set_option maxHeartbeats 4000000 in
theorem c_N_reckonLevel (l : Launch) (D : va_G) (G : Nat → ClassId) (a : Nat → Nat) (σ : KS) (today : Int32) (sz : Nat)  : Met l yN_reckonLevel wgN_reckonLevel rm_N_reckonLevel (kw_Pc D vwCl (gt G) [.ref (a 0), .int today] (lcells G a σ) sz) (kw_v D vwCl (gt G) (lcells G a σ) sz (lcells G a (kN_reckonLevel σ today))) 0 0 (va_A (lcells G a σ) sz) := by
  refine Met.ofW (cc := cN_reckonLevel) (maxL := 4) (ret := none) (by decide) rfl ?_
  intro p e s m args below meth c s₁ B hml hv
  have hx := B.exec
  have hb := B.bytes
  have hr := B.returns
  have hts := atoms_spec (ws := wgN_reckonLevel) B.pre
  have hg : ∀ w ∈ GW, w.before args s = true := fun w h => hts w (List.mem_cons_of_mem _ h)
  have hown : s.vm.findClass RN = some m.cls := findClass_of_methodNamed B.named
  have hlocks := B.notSynchronized
  obtain ⟨hv, hsz, hP, hK, hD0⟩ := hv
  subst hsz
  have hD := hD0.self (sz := s.heap.size)
  have hS : va_S (va_A (lcells G a σ) s.heap.size) s.heap s.heap [] := va_S.rf
  refine kw_entry [.ref (a 0), .int today] hv (Nat.le_of_ble_eq_true rfl) (fun ls hl => ?_)
  have hl : lv_has ls 4 [(0, .ref (a 0)), (1, .int today)] := hl
  refine lv_aload_n hx hb dN_reckonLevel_0 rfl (lv_at hl 0 rfl) ?_
  refine va_get (v := .int (σ 0 1)) hx hb hg hin_N hown hK hP 0 rfl rfl 6 (by decide) (hg _ gw_226) (fun _ h => h) rfl dN_reckonLevel_1 ?_
  refine lv_aload_n hx hb dN_reckonLevel_4 rfl (lv_at hl 0 rfl) ?_
  refine va_get (v := .ref (a 4)) hx hb hg hin_N hown hK hP 0 rfl rfl 3 (by decide) (hg _ gw_220) (fun _ h => h) rfl dN_reckonLevel_5 ?_
  refine lv_iconst (v := 2) hx hb dN_reckonLevel_8 (by decide) ?_
  refine kw_iald (v := σ 1 2) (j := 2) hx hb hK hP 4 0 rfl rfl (by unfold vp_in; decide) rfl rfl dN_reckonLevel_9 ?_
  refine lv_isub hx hb dN_reckonLevel_10 ?_
  refine lv_istore_n hx hb dN_reckonLevel_11 rfl hl (by decide) rfl (fun ls hl => ?_)
  have hl : lv_has ls 4 [(2, .int ((σ 0 1) - (σ 1 2))), (0, .ref (a 0)), (1, .int today)] := hl
  refine lv_iload_n hx hb dN_reckonLevel_12 rfl (lv_at hl 0 rfl) ?_
  refine lv_if_gt (tgt := 22) hx hb dN_reckonLevel_13 (by decide) (fun h1 => ?_) (fun h1 => ?_)
  · skip
    refine lv_aload_n hx hb dN_reckonLevel_22 rfl (lv_at hl 1 rfl) ?_
    refine lv_iload_n hx hb dN_reckonLevel_23 rfl (lv_at hl 2 rfl) ?_
    refine kw_reti0 (va_runV (C := RN) (As := [.int today]) (rest := []) ⟨hx, hb, hml, hown, hg⟩ (c_N_layOutSpans l D G a σ today _) ⟨kw_cB (n := 1) hg gw_268 gw_10 gw_266 (by decide +kernel) (by decide +kernel) ⟨Nat.le_of_ble_eq_true rfl, Nat.le_of_ble_eq_true rfl⟩ rfl rfl, hg _ gw_267, hg _ gw_734⟩ (kw_preV (q0 := 0) hK hP hD rfl rfl) rfl rfl hl.1 rfl (lv_room (Nat.le_of_ble_eq_true rfl)) dN_reckonLevel_24 ⟨Nat.le_of_ble_eq_true rfl, Nat.le_of_ble_eq_true rfl⟩) hP hD hS (fun _ h => Or.inr h) (fun H locs hP hD hS => ?_)
    refine lv_topi (fun r_2 e_3 => ?_)
    replace e_3 := e_3.symm
    obtain ⟨S_4, e_5⟩ : ∃ z : KS, (kN_layOutSpans σ today).2 = z := ⟨_, rfl⟩
    rw [e_5] at hP hD
    refine lv_istore_n hx hb dN_reckonLevel_27 rfl hl (by decide) rfl (fun ls hl => ?_)
    have hl : lv_has ls 4 [(3, .int r_2), (2, .int ((σ 0 1) - (σ 1 2))), (0, .ref (a 0)), (1, .int today)] := hl
    refine lv_iload_n hx hb dN_reckonLevel_28 rfl (lv_at hl 0 rfl) ?_
    refine lv_if_le (tgt := 42) hx hb dN_reckonLevel_29 (by decide) (fun h6 => ?_) (fun h6 => ?_)
    · skip
      have hk9 : kN_reckonLevel σ today = S_4 := by subst e_3 e_5; unfold kN_reckonLevel; rw [if_pos h1, if_pos h6]
      exact kw_vret hx hb hr hlocks hK hP hD hS (kw_fin1 (f := lcells G a) (S := S_4) rfl hk9) dN_reckonLevel_42
    · skip
      refine lv_aload_n hx hb dN_reckonLevel_32 rfl (lv_at hl 2 rfl) ?_
      refine lv_aload_n hx hb dN_reckonLevel_33 rfl (lv_at hl 2 rfl) ?_
      refine lv_iload_n hx hb dN_reckonLevel_34 rfl (lv_at hl 1 rfl) ?_
      refine lv_iload_n hx hb dN_reckonLevel_35 rfl (lv_at hl 0 rfl) ?_
      refine kw_reti0 (va_runV (C := RN) (As := [.int ((σ 0 1) - (σ 1 2)), .int r_2]) (rest := [.ref (a 0)]) ⟨hx, hb, hml, hown, hg⟩ (c_N_leastLevel l D G a S_4 ((σ 0 1) - (σ 1 2)) r_2 _) ⟨kw_cB (n := 2) hg gw_281 gw_10 gw_279 (by decide +kernel) (by decide +kernel) ⟨Nat.le_of_ble_eq_true rfl, Nat.le_of_ble_eq_true rfl⟩ rfl rfl, hg _ gw_280, hg _ gw_735⟩ (kw_preV (q0 := 0) hK hP hD rfl rfl) rfl rfl hl.1 rfl (lv_room (Nat.le_of_ble_eq_true rfl)) dN_reckonLevel_36 ⟨Nat.le_of_ble_eq_true rfl, Nat.le_of_ble_eq_true rfl⟩) hP hD hS (fun _ h => Or.inr h) (fun H locs hP hD hS => ?_)
      refine lv_topi (fun r_7 e_8 => ?_)
      replace e_8 := e_8.symm
      refine kw_put (w' := lc G a (S_4 0 0) (S_4 0 1) r_7 (S_4 0 3) (S_4 0 4) (S_4 0 5) (S_4 0 6) (S_4 0 10) (S_4 0 11) (S_4 0 12) (S_4 0 13) (S_4 0 14) (S_4 0 15) (S_4 0 16) (S_4 0 20) (S_4 0 21) (S_4 0 22) (S_4 0 30) (S_4 1) (S_4 2) (S_4 3) (S_4 4)) (v := .int r_7) (ty := .int) hx hb hg hin_N tyN tyN_ok nN hown hK hP hD hS 0 rfl rfl 7 (by decide) (hg _ gw_228) (fun _ h => h) rfl (by decide +kernel) rfl rfl (Nat.le_of_ble_eq_true rfl) dN_reckonLevel_39 rfl (fun H locs hP hD hS => ?_)
      have hk9 : kN_reckonLevel σ today = mkL (S_4 0 0) (S_4 0 1) r_7 (S_4 0 3) (S_4 0 4) (S_4 0 5) (S_4 0 6) (S_4 0 10) (S_4 0 11) (S_4 0 12) (S_4 0 13) (S_4 0 14) (S_4 0 15) (S_4 0 16) (S_4 0 20) (S_4 0 21) (S_4 0 22) (S_4 0 30) (S_4 1) (S_4 2) (S_4 3) (S_4 4) := by subst e_3 e_5 e_8; unfold kN_reckonLevel; rw [if_pos h1, if_neg h6]
      exact kw_vret hx hb hr hlocks hK hP hD hS (kw_fin1 (f := lcells G a) (S := mkL (S_4 0 0) (S_4 0 1) r_7 (S_4 0 3) (S_4 0 4) (S_4 0 5) (S_4 0 6) (S_4 0 10) (S_4 0 11) (S_4 0 12) (S_4 0 13) (S_4 0 14) (S_4 0 15) (S_4 0 16) (S_4 0 20) (S_4 0 21) (S_4 0 22) (S_4 0 30) (S_4 1) (S_4 2) (S_4 3) (S_4 4)) rfl hk9) dN_reckonLevel_42
  · skip
    refine lv_aload_n hx hb dN_reckonLevel_16 rfl (lv_at hl 1 rfl) ?_
    refine lv_iconst (v := 0) hx hb dN_reckonLevel_17 (by decide) ?_
    refine kw_put (w' := lc G a (σ 0 0) (σ 0 1) 0 (σ 0 3) (σ 0 4) (σ 0 5) (σ 0 6) (σ 0 10) (σ 0 11) (σ 0 12) (σ 0 13) (σ 0 14) (σ 0 15) (σ 0 16) (σ 0 20) (σ 0 21) (σ 0 22) (σ 0 30) (σ 1) (σ 2) (σ 3) (σ 4)) (v := .int 0) (ty := .int) hx hb hg hin_N tyN tyN_ok nN hown hK hP hD hS 0 rfl rfl 7 (by decide) (hg _ gw_228) (fun _ h => h) rfl (by decide +kernel) rfl rfl (Nat.le_of_ble_eq_true rfl) dN_reckonLevel_18 rfl (fun H locs hP hD hS => ?_)
    have hk9 : kN_reckonLevel σ today = mkL (σ 0 0) (σ 0 1) 0 (σ 0 3) (σ 0 4) (σ 0 5) (σ 0 6) (σ 0 10) (σ 0 11) (σ 0 12) (σ 0 13) (σ 0 14) (σ 0 15) (σ 0 16) (σ 0 20) (σ 0 21) (σ 0 22) (σ 0 30) (σ 1) (σ 2) (σ 3) (σ 4) := by unfold kN_reckonLevel; rw [if_neg h1]
    exact kw_vret hx hb hr hlocks hK hP hD hS (kw_fin1 (f := lcells G a) (S := mkL (σ 0 0) (σ 0 1) 0 (σ 0 3) (σ 0 4) (σ 0 5) (σ 0 6) (σ 0 10) (σ 0 11) (σ 0 12) (σ 0 13) (σ 0 14) (σ 0 15) (σ 0 16) (σ 0 20) (σ 0 21) (σ 0 22) (σ 0 30) (σ 1) (σ 2) (σ 3) (σ 4)) rfl hk9) dN_reckonLevel_21
