/-! the desk: days go by -/
abbrev kLs : Type := List ((Nat → Nat) × KS)
def lfm (G : Nat → ClassId) (Ls : kLs) : va_W := Ls.flatMap (fun x => lcells G x.1 x.2)
def kD_dl (Ls : kLs) (t : Int32) : kLs := Ls.map (fun x => (x.1, (kN_beginDay x.2 t).2))
def kD_dm (t : Int32) : kLs → Int32 → Int32
  | [], n => n
  | x :: r, n => kD_dm t r (if (kN_beginDay x.2 t).1 = (0 : Int32) then n else n + 1)
def kD_adv : Nat → Int32 → Int32 → kLs → Int32 × Int32 × kLs
  | 0, t, n, Ls => (n, t, Ls)
  | k + 1, t, n, Ls => kD_adv k (t + 1) (kD_dm (t + 1) Ls n) (kD_dl Ls (t + 1))
def kD_advance (today days : Int32) (Ls : kLs) : Int32 × Int32 × Int32 × kLs := if (0 : Int32) ≤ days then (if days ≤ 1500 - today then (0, kD_adv days.toNatClampNeg today 0 Ls) else (2, 0, today, Ls)) else (1, 0, today, Ls)
def kD_small (Ls : kLs) : Prop := ∀ x ∈ Ls, ∃ cn : Nat, x.2 0 30 = nI cn ∧ cn ≤ 50
def kD_ok : Nat → Int32 → kLs → Prop
  | 0, _, _ => True
  | k + 1, t, Ls => kD_small Ls ∧ kD_ok k (t + 1) (kD_dl Ls (t + 1))
theorem lfm_perm (G : Nat → ClassId) (hd ha : Nat) (cnt t : Int32) (g : Nat → Option Nat) (done todo : kLs) (x : (Nat → Nat) × KS) : (lcells G x.1 x.2 ++ dtl G hd ha cnt t g (lfm G (done ++ todo))).Perm (dtl G hd ha cnt t g (lfm G (done ++ x :: todo))) := by
  unfold dtl lfm
  rw [List.flatMap_append, List.flatMap_append, List.flatMap_cons]
  refine List.perm_middle.trans (List.Perm.cons _ (List.perm_middle.trans (List.Perm.cons _ ?_)))
  rw [← List.append_assoc, ← List.append_assoc]
  exact List.Perm.append_right _ List.perm_append_comm
theorem lfm_perm2 (G : Nat → ClassId) (hd ha : Nat) (cnt t : Int32) (g : Nat → Option Nat) (done todo : kLs) (x : (Nat → Nat) × KS) : (dtl G hd ha cnt t g (lfm G (done ++ x :: todo))).Perm (lcells G x.1 x.2 ++ dtl G hd ha cnt t g (lfm G (done ++ todo))) := (lfm_perm G hd ha cnt t g done todo x).symm
theorem kD_dl_map (Ls : kLs) (t : Int32) : (kD_dl Ls t).map Prod.fst = Ls.map Prod.fst := by
  unfold kD_dl
  rw [List.map_map]
  rfl
abbrev wgD_advance : List Cond := .code yD_advance cD_advance 5 (some .int) :: GW
abbrev rm_D_advance : Room := { frames := 6, cells := 1, slots := 6, locals := 152 }
set_option maxRecDepth 100000 in
set_option maxHeartbeats 4000000 in
theorem c_D_advance (l : Launch) (hlt : l.stackTraces = false) (D : va_G) (G : Nat → ClassId) (hd ha : Nat) (cnt today : Int32) (g : Nat → Option Nat) (Ls : kLs) (days : Int32) (sz : Nat) (hcnt : cnt = nI Ls.length) (hL : Ls.length ≤ 3) (hgl : ∀ (i : Nat) (a : Nat → Nat), (Ls.map Prod.fst)[i]? = some a → g i = some (a 0)) (hok : (0 : Int32) ≤ days → days ≤ 1500 - today → kD_ok days.toNatClampNeg today Ls) : vx_Met l yD_advance wgD_advance rm_D_advance (kt_Pc D vwCl (gt G) [.ref hd, .int days] (dtl G hd ha cnt today g (lfm G Ls)) sz) (kt_i D vwCl (gt G) (dtl G hd ha cnt today g (lfm G Ls)) sz ((kD_advance today days Ls).1 = 0) ((kD_advance today days Ls).2.1) (dtl G hd ha cnt (kD_advance today days Ls).2.2.1 g (lfm G (kD_advance today days Ls).2.2.2))) (kt_X D vwCl (gt G) (dtl G hd ha cnt today g (lfm G Ls)) sz (fun E => (kD_advance today days Ls).1 = ecd E)) 1 6 (va_A (dtl G hd ha cnt today g (lfm G Ls)) sz) := by
  refine vx_ofW (cc := cD_advance) (maxL := 5) (ret := (some .int)) (by decide) rfl ?_
  intro p e s m args below meth c s₁ B hml hnt hv
  have hx := B.exec
  have hb := B.bytes
  have hr := B.returns
  have hts := atoms_spec (ws := wgD_advance) B.pre
  have hg : ∀ w ∈ GW, w.before args s = true := fun w h => hts w (List.mem_cons_of_mem _ h)
  have hown : s.vm.findClass RD = some m.cls := findClass_of_methodNamed B.named
  have hlocks := B.notSynchronized
  obtain ⟨⟨hv, hsz, hP, hK, hD0⟩, hE⟩ := hv
  subst hsz
  have hD := hD0.self (sz := s.heap.size)
  have hS : va_S (va_A (dtl G hd ha cnt today g (lfm G Ls)) s.heap.size) s.heap s.heap [] := va_S.rf
  refine kw_entry [.ref hd, .int days] hv (Nat.le_of_ble_eq_true rfl) (fun ls hl => ?_)
  have hl : lv_has ls 5 [(0, .ref hd), (1, .int days)] := hl
  refine lv_iload_n hx hb dD_advance_0 rfl (lv_at hl 1 rfl) ?_
  refine lv_if_ge (tgt := 12) hx hb dD_advance_1 (by decide) (fun h1 => ?_) (fun h1 => ?_)
  · skip
    refine lv_iload_n hx hb dD_advance_12 rfl (lv_at hl 1 rfl) ?_
    refine lv_sipush (v := 1500) hx hb dD_advance_13 (by decide) ?_
    refine lv_aload_n hx hb dD_advance_16 rfl (lv_at hl 0 rfl) ?_
    refine va_get (v := .int today) hx hb hg hin_D hown hK hP 0 rfl rfl 2 (by decide) (hg _ gw_29) (fun _ h => h) rfl dD_advance_17 ?_
    refine lv_isub hx hb dD_advance_20 ?_
    refine lv_icmp_le (tgt := 32) hx hb dD_advance_21 (by decide) (fun h2 => ?_) (fun h2 => ?_)
    · skip
      have hk9 : kD_advance today days Ls = (0, kD_adv days.toNatClampNeg today 0 Ls) := by unfold kD_advance; rw [if_pos h1, if_pos h2]
      have hok := hok h1 h2
      obtain ⟨N, hN, eN⟩ : ∃ N : Nat, N < 2 ^ 31 ∧ days = nI N := nI_of (fun q => absurd h1 (by rw [Int32.le_iff_toInt_le]; rw [Int32.lt_iff_toInt_lt] at q; omega))
      have eC : days.toNatClampNeg = N := by rw [eN]; exact nI_clamp hN
      rw [eC] at hok hk9
      rw [hk9]
      refine lv_iconst (v := 0) hx hb dD_advance_32 (by decide) ?_
      refine lv_istore_n hx hb dD_advance_33 rfl hl (by decide) rfl (fun ls hl => ?_)
      have hl : lv_has ls 5 [(2, .int 0), (0, .ref hd), (1, .int days)] := hl
      refine lv_iconst (v := 0) hx hb dD_advance_34 (by decide) ?_
      refine lv_istore_n hx hb dD_advance_35 rfl hl (by decide) rfl (fun ls hl => ?_)
      have hl : lv_has ls 5 [(3, .int (nI 0)), (2, .int 0), (0, .ref hd), (1, .int days)] := hl
      have loop : ∀ (k j : Nat) (t nn : Int32) (Ms : kLs) (ls : Array Slot) (H : Heap) (locs : List Loc), j + k = N → kD_ok k t Ms → Ms.map Prod.fst = Ls.map Prod.fst → kD_adv k t nn Ms = kD_adv N today 0 Ls → lv_has ls 5 [(3, .int (nI j)), (2, .int nn), (0, .ref hd), (1, .int days)] → va_P D vwCl (dtl G hd ha cnt t g (lfm G Ms)) H → va_D (va_A (dtl G hd ha cnt today g (lfm G Ls)) s.heap.size) (dtl G hd ha cnt t g (lfm G Ms)) → va_S (va_A (dtl G hd ha cnt today g (lfm G Ls)) s.heap.size) s.heap H locs → W p l e rm_D_advance s m args below meth c H locs 0 0 (vx_MQ below (kt_i D vwCl (gt G) (dtl G hd ha cnt today g (lfm G Ls)) s.heap.size ((0 : Int32) = 0) (kD_adv N today 0 Ls).1 (dtl G hd ha cnt (kD_adv N today 0 Ls).2.1 g (lfm G (kD_adv N today 0 Ls).2.2))) (kt_X D vwCl (gt G) (dtl G hd ha cnt today g (lfm G Ls)) s.heap.size (fun E => (0 : Int32) = ecd E)) args s 1 6 (va_A (dtl G hd ha cnt today g (lfm G Ls)) s.heap.size)) (F0 m 36 ls []) := by
        intro k
        induction k with
        | zero =>
          intro j t nn Ms ls H locs hj ho hm hk hl hP hD hS
          refine lv_iload_n hx hb dD_advance_36 rfl (lv_at hl 0 rfl) ?_
          refine lv_iload_n hx hb dD_advance_37 rfl (lv_at hl 3 rfl) ?_
          refine lv_icmp_ge (tgt := 95) hx hb dD_advance_38 (by decide) (fun h3 => ?_) (fun h3 => absurd (show days ≤ nI j by rw [eN]; exact nI_le (by omega) (by omega)) h3)
          refine lv_iload_n hx hb dD_advance_95 rfl (lv_at hl 1 rfl) ?_
          rw [← hk]
          refine W.widen (k := 1) (n := 6) (by decide) (by decide) ?_
          exact kt_iret hx hb hr hlocks hK hP hD hS ⟨rfl, rfl, rfl⟩ dD_advance_96
        | succ k ih =>
          intro j t nn Ms ls H locs hj ho hm hk hl hP hD hS
          refine lv_iload_n hx hb dD_advance_36 rfl (lv_at hl 0 rfl) ?_
          refine lv_iload_n hx hb dD_advance_37 rfl (lv_at hl 3 rfl) ?_
          refine lv_icmp_ge (tgt := 95) hx hb dD_advance_38 (by decide) (fun h3 => absurd h3 (by rw [eN]; exact nI_ge (by omega) (by omega))) (fun h3 => ?_)
          refine lv_aload_n hx hb dD_advance_41 rfl (lv_at hl 2 rfl) ?_
          refine lv_dup hx hb dD_advance_42 rfl ?_
          refine va_get (v := .int t) hx hb hg hin_D hown hK hP 0 rfl rfl 2 (by decide) (hg _ gw_29) (fun _ h => h) rfl dD_advance_43 ?_
          refine lv_iconst (v := 1) hx hb dD_advance_46 (by decide) ?_
          refine lv_iadd hx hb dD_advance_47 ?_
          refine kw_put (w' := dtl G hd ha cnt (t + 1) g (lfm G Ms)) (v := .int (t + 1)) (ty := .int) hx hb hg hin_D tyD tyD_ok nD hown hK hP hD hS 0 rfl rfl 2 (by decide) (hg _ gw_29) (fun _ h => h) rfl (by decide +kernel) rfl rfl (Nat.le_of_ble_eq_true rfl) dD_advance_48 rfl (fun H locs hP hD hS => ?_)
          refine lv_iconst (v := 0) hx hb dD_advance_51 (by decide) ?_
          refine lv_istore hx hb dD_advance_52 hl (by decide) rfl (fun ls hl => ?_)
          have hl : lv_has ls 5 [(4, .int (nI 0)), (3, .int (nI j)), (2, .int nn), (0, .ref hd), (1, .int days)] := hl
          have inner : ∀ (todo done : kLs) (n : Int32) (ls : Array Slot) (H : Heap) (locs : List Loc), (done ++ todo).map Prod.fst = Ls.map Prod.fst → kD_small todo → done ++ kD_dl todo (t + 1) = kD_dl Ms (t + 1) → kD_dm (t + 1) todo n = kD_dm (t + 1) Ms nn → lv_has ls 5 [(4, .int (nI done.length)), (3, .int (nI j)), (2, .int n), (0, .ref hd), (1, .int days)] → va_P D vwCl (dtl G hd ha cnt (t + 1) g (lfm G (done ++ todo))) H → va_D (va_A (dtl G hd ha cnt today g (lfm G Ls)) s.heap.size) (dtl G hd ha cnt (t + 1) g (lfm G (done ++ todo))) → va_S (va_A (dtl G hd ha cnt today g (lfm G Ls)) s.heap.size) s.heap H locs → W p l e rm_D_advance s m args below meth c H locs 0 0 (vx_MQ below (kt_i D vwCl (gt G) (dtl G hd ha cnt today g (lfm G Ls)) s.heap.size ((0 : Int32) = 0) (kD_adv N today 0 Ls).1 (dtl G hd ha cnt (kD_adv N today 0 Ls).2.1 g (lfm G (kD_adv N today 0 Ls).2.2))) (kt_X D vwCl (gt G) (dtl G hd ha cnt today g (lfm G Ls)) s.heap.size (fun E => (0 : Int32) = ecd E)) args s 1 6 (va_A (dtl G hd ha cnt today g (lfm G Ls)) s.heap.size)) (F0 m 54 ls []) := by
            intro todo
            induction todo with
            | nil =>
              intro done n ls H locs hm2 hsm hdl hdm hl hP hD hS
              have hlen : done.length = Ls.length := by
                have q := congrArg List.length hm2
                rw [List.append_nil, List.length_map, List.length_map] at q
                exact q
              refine lv_iload hx hb dD_advance_54 (lv_at hl 0 rfl) ?_
              refine lv_aload_n hx hb dD_advance_56 rfl (lv_at hl 3 rfl) ?_
              refine va_get (v := .int cnt) hx hb hg hin_D hown hK hP 0 rfl rfl 1 (by decide) (hg _ gw_28) (fun _ h => h) rfl dD_advance_57 ?_
              refine lv_icmp_ge (tgt := 89) hx hb dD_advance_60 (by decide) (fun h4 => ?_) (fun h4 => absurd (show cnt ≤ nI done.length by rw [hcnt, hlen]; exact nI_le (by omega) (by omega)) h4)
              refine lv_iinc (v := nI (j + 1)) hx hb dD_advance_89 hl (k := 1) rfl (by rw [nI_succ]; rfl) (by decide) rfl (fun ls hl => ?_)
              have hl : lv_has ls 5 [(3, .int (nI (j + 1))), (4, .int (nI done.length)), (2, .int n), (0, .ref hd), (1, .int days)] := hl
              refine lv_goto (tgt := 36) hx hb dD_advance_92 (by decide) ?_
              have e1 : done = kD_dl Ms (t + 1) := by rw [← hdl]; exact (List.append_nil done).symm
              have e2 : n = kD_dm (t + 1) Ms nn := hdm
              rw [List.append_nil] at hP hD
              refine ih (j + 1) (t + 1) n done ls H locs (by omega) (by rw [e1]; exact ho.2) (by rw [e1, kD_dl_map]; exact hm) (by rw [← hk, e1, e2]; rfl) ?_ hP hD hS
              exact lv_sub hl [0, 2, 3, 4] rfl
            | cons x todo ih2 =>
              intro done n ls H locs hm2 hsm hdl hdm hl hP hD hS
              have hlen : done.length + (todo.length + 1) = Ls.length := by
                have q := congrArg List.length hm2
                rw [List.length_map, List.length_map, List.length_append, List.length_cons] at q
                exact q
              have hgx : g (nI done.length).toNatClampNeg = some (x.1 0) := by
                rw [nI_clamp (by omega)]
                refine hgl done.length x.1 ?_
                rw [← hm2, List.map_append, List.getElem?_append_right (by rw [List.length_map]; exact Nat.le_refl _), List.length_map, Nat.sub_self]
                rfl
              obtain ⟨cn, hcn, hcl⟩ := hsm x List.mem_cons_self
              refine lv_iload hx hb dD_advance_54 (lv_at hl 0 rfl) ?_
              refine lv_aload_n hx hb dD_advance_56 rfl (lv_at hl 3 rfl) ?_
              refine va_get (v := .int cnt) hx hb hg hin_D hown hK hP 0 rfl rfl 1 (by decide) (hg _ gw_28) (fun _ h => h) rfl dD_advance_57 ?_
              refine lv_icmp_ge (tgt := 89) hx hb dD_advance_60 (by decide) (fun h4 => absurd h4 (by rw [hcnt]; exact nI_ge (by omega) (by omega))) (fun h4 => ?_)
              refine lv_aload_n hx hb dD_advance_63 rfl (lv_at hl 3 rfl) ?_
              refine va_get (v := .ref ha) hx hb hg hin_D hown hK hP 0 rfl rfl 0 (by decide) (hg _ gw_27) (fun _ h => h) rfl dD_advance_64 ?_
              refine lv_iload hx hb dD_advance_67 (lv_at hl 0 rfl) ?_
              refine va_aldq hx hb hK hP 1 3 rfl rfl (nI_in (by omega) (by omega)) dD_advance_69 ?_
              rw [hgx]
              refine lv_aload_n hx hb dD_advance_70 rfl (lv_at hl 3 rfl) ?_
              refine va_get (v := .int (t + 1)) hx hb hg hin_D hown hK hP 0 rfl rfl 2 (by decide) (hg _ gw_29) (fun _ h => h) rfl dD_advance_71 ?_
              have hP : va_P D vwCl (lcells G x.1 x.2 ++ dtl G hd ha cnt (t + 1) g (lfm G (done ++ todo))) H := kw_Pp hP (lfm_perm G hd ha cnt (t + 1) g done todo x)
              have hD : va_D (va_A (dtl G hd ha cnt today g (lfm G Ls)) s.heap.size) (lcells G x.1 x.2 ++ dtl G hd ha cnt (t + 1) g (lfm G (done ++ todo))) := kw_Dp hD (lfm_perm G hd ha cnt (t + 1) g done todo x)
              refine kw_reti (wc := lcells G x.1 x.2) (wr := dtl G hd ha cnt (t + 1) g (lfm G (done ++ todo))) (va_runV (C := RN) (As := [.int (t + 1)]) (rest := []) ⟨hx, hb, hml, hown, hg⟩ (c_N_beginDay l D G x.1 x.2 (t + 1) _ cn hcn hcl) ⟨kw_cB (n := 1) hg gw_341 gw_10 gw_338 (by decide +kernel) (by decide +kernel) ⟨Nat.le_of_ble_eq_true rfl, Nat.le_of_ble_eq_true rfl⟩ rfl rfl, hg _ gw_339, hg _ gw_340⟩ (kw_preV (q0 := 0) hK (kw_Pl (w1 := lcells G x.1 x.2) (w2 := dtl G hd ha cnt (t + 1) g (lfm G (done ++ todo))) hP) (kw_Dl (w1 := lcells G x.1 x.2) (w2 := dtl G hd ha cnt (t + 1) g (lfm G (done ++ todo))) hD) rfl rfl) rfl rfl hl.1 rfl (lv_room (Nat.le_of_ble_eq_true rfl)) dD_advance_74 ⟨Nat.le_of_ble_eq_true rfl, Nat.le_of_ble_eq_true rfl⟩) hP hD hS (fun _ h => Or.inr h) (fun H locs hP hD hS => ?_)
              obtain ⟨S6, e6⟩ : ∃ z : KS, (kN_beginDay x.2 (t + 1)).2 = z := ⟨_, rfl⟩
              obtain ⟨r6, e7⟩ : ∃ z : Int32, (kN_beginDay x.2 (t + 1)).1 = z := ⟨_, rfl⟩
              have hdl2 : (done ++ [(x.1, S6)]) ++ kD_dl todo (t + 1) = kD_dl Ms (t + 1) := by rw [← hdl, ← e6, List.append_assoc]; rfl
              have hm3 : ((done ++ [(x.1, S6)]) ++ todo).map Prod.fst = Ls.map Prod.fst := by
                rw [← hm2, List.append_assoc, List.map_append, List.map_append, List.map_append]
                rfl
              have hdm2 : kD_dm (t + 1) todo (if r6 = (0 : Int32) then n else n + 1) = kD_dm (t + 1) Ms nn := by rw [← hdm, ← e7]; rfl
              have hsm2 : kD_small todo := fun y hy => hsm y (List.mem_cons_of_mem _ hy)
              have hle : (done ++ [(x.1, S6)]).length = done.length + 1 := by rw [List.length_append]; rfl
              rw [e6] at hP hD
              rw [e7]
              have hP : va_P D vwCl (dtl G hd ha cnt (t + 1) g (lfm G ((done ++ [(x.1, S6)]) ++ todo))) H := by
                rw [List.append_assoc]
                exact kw_Pp hP (lfm_perm2 G hd ha cnt (t + 1) g done todo (x.1, S6))
              have hD : va_D (va_A (dtl G hd ha cnt today g (lfm G Ls)) s.heap.size) (dtl G hd ha cnt (t + 1) g (lfm G ((done ++ [(x.1, S6)]) ++ todo))) := by
                rw [List.append_assoc]
                exact kw_Dp hD (lfm_perm2 G hd ha cnt (t + 1) g done todo (x.1, S6))
              refine lv_if_eq (tgt := 83) hx hb dD_advance_77 (by decide) (fun h5 => ?_) (fun h5 => ?_)
              · skip
                rw [if_pos h5] at hdm2
                refine lv_iinc (v := nI (done.length + 1)) hx hb dD_advance_83 hl (k := 0) rfl (by rw [nI_succ]; rfl) (by decide) rfl (fun ls hl => ?_)
                have hl : lv_has ls 5 [(4, .int (nI (done.length + 1))), (3, .int (nI j)), (2, .int n), (0, .ref hd), (1, .int days)] := hl
                refine lv_goto (tgt := 54) hx hb dD_advance_86 (by decide) ?_
                rw [← hle] at hl
                exact ih2 (done ++ [(x.1, S6)]) n ls H locs hm3 hsm2 hdl2 hdm2 hl hP hD hS
              · skip
                rw [if_neg h5] at hdm2
                refine lv_iinc (v := n + 1) hx hb dD_advance_80 hl (k := 2) rfl (by first | rfl | decide) (by decide) rfl (fun ls hl => ?_)
                have hl : lv_has ls 5 [(2, .int (n + 1)), (4, .int (nI done.length)), (3, .int (nI j)), (0, .ref hd), (1, .int days)] := hl
                refine lv_iinc (v := nI (done.length + 1)) hx hb dD_advance_83 hl (k := 1) rfl (by rw [nI_succ]; rfl) (by decide) rfl (fun ls hl => ?_)
                have hl : lv_has ls 5 [(4, .int (nI (done.length + 1))), (2, .int (n + 1)), (3, .int (nI j)), (0, .ref hd), (1, .int days)] := hl
                refine lv_goto (tgt := 54) hx hb dD_advance_86 (by decide) ?_
                rw [← hle] at hl
                exact ih2 (done ++ [(x.1, S6)]) (n + 1) ls H locs hm3 hsm2 hdl2 hdm2 (lv_sub hl [0, 2, 1, 3, 4] rfl) hP hD hS
          exact inner Ms [] nn ls H locs hm ho.1 rfl rfl hl hP hD hS
      exact loop N 0 today 0 Ls ls s.heap [] (Nat.zero_add N) hok rfl rfl hl hP hD hS
    · skip
      have hk9 : kD_advance today days Ls = (2, 0, today, Ls) := by unfold kD_advance; rw [if_pos h1, if_neg h2]
      exact kt_throw hx hb hlt hg hown hE (by decide +kernel) gw_118 gw_7 kt_gS kt_bS kt_inS kt_oS hnt hK hP hD hS (hl.1.trans hml.symm) dD_advance_24 dD_advance_27 dD_advance_28 dD_advance_31 (Nat.le_of_ble_eq_true rfl) (Nat.le_of_ble_eq_true rfl) (Nat.le_of_ble_eq_true rfl) (Nat.le_of_ble_eq_true rfl) hlocks (Nat.le_of_ble_eq_true rfl) (Nat.le_of_ble_eq_true rfl) (by rw [hk9]; exact (show (2 : Int32) = ecd eS by decide))
  · skip
    have hk9 : kD_advance today days Ls = (1, 0, today, Ls) := by unfold kD_advance; rw [if_neg h1]
    exact kt_throw hx hb hlt hg hown hE (by decide +kernel) gw_64 gw_6 kt_gA kt_bA kt_inA kt_oA hnt hK hP hD hS (hl.1.trans hml.symm) dD_advance_4 dD_advance_7 dD_advance_8 dD_advance_11 (Nat.le_of_ble_eq_true rfl) (Nat.le_of_ble_eq_true rfl) (Nat.le_of_ble_eq_true rfl) (Nat.le_of_ble_eq_true rfl) hlocks (Nat.le_of_ble_eq_true rfl) (Nat.le_of_ble_eq_true rfl) (by rw [hk9]; exact (show (1 : Int32) = ecd eA by decide))
