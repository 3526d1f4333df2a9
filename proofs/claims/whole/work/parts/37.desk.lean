/-! the desk, one of its loans in front -/
def dtl (G : Nat → ClassId) (hd ha : Nat) (cnt today : Int32) (g : Nat → Option Nat) (rest : va_W) : va_W := (hd, .inr (0, [.ref ha, .int cnt, .int today])) :: (ha, .inl (G 3, 3, .inr (.inr (.inr (.inr g))))) :: rest
def dcl (G : Nat → ClassId) (a : Nat → Nat) (hd ha : Nat) (cnt today : Int32) (g : Nat → Option Nat) (rest : va_W) (S : KS) : va_W := lcells G a S ++ dtl G hd ha cnt today g rest
def ldc (G : Nat → ClassId) (a : Nat → Nat) (hd ha : Nat) (cnt today : Int32) (g : Nat → Option Nat) (rest : va_W) (x0 x1 x2 x3 x4 x5 x6 x10 x11 x12 x13 x14 x15 x16 x20 x21 x22 x30 : Int32) (A1 A2 A3 A4 : Nat → Int32) : va_W := lc G a x0 x1 x2 x3 x4 x5 x6 x10 x11 x12 x13 x14 x15 x16 x20 x21 x22 x30 A1 A2 A3 A4 ++ dtl G hd ha cnt today g rest
def ecd (E : String) : Int32 := if E = eA then 1 else if E = eS then 2 else if E = eI then 3 else if E = eN then 4 else 5
theorem kt_fin {k : Int32 × Int32 × KS} {v : Int32} {S : KS} {f : KS → va_W} {w : va_W} (hw : w = f S) (h : k = (0, v, S)) : k.1 = 0 ∧ v = k.2.1 ∧ w = f k.2.2 := by
  subst h
  exact ⟨rfl, rfl, hw⟩
theorem kt_fin1 {k : Int32 × Int32 × KS} {v : Int32} {S : KS} {f : KS → va_W} {w : va_W} (hw : w = f S) (h : k = (0, v, S)) : k.1 = 0 ∧ w = f k.2.2 := by
  subst h
  exact ⟨rfl, hw⟩
theorem kt_retf {p : Program} {l : Launch} {e : Env} {R : Room} {s : State} {m : MethodId} {args : Array Value} {below : List Frame} {meth : Method} {c : Code} {H : Heap} {locs : List Loc} {cells slots : Nat} {Q : State → Prop} {pc : Nat} {ls : Array Slot} {rest st0 : List Value} {D : va_G} {cl : List vw_C} {A : Nat → Prop} {tys : List (ClassId × FieldType)} {wc w' : va_W} {H0 : Heap} {mc ms : Nat} {a : Array Value} {ra : Nat} (hr : va_Run p l e R s m args below meth c H locs cells slots mc ms (F0 m pc ls st0) rest (kw_r D cl tys wc H.size ra w' a) (va_A wc H.size)) (hP : va_P D cl wc H) (hD : va_D A wc) (hS : va_S A H0 H locs) (hA : ∀ q, H0.size ≤ q → A q)
    (kk : ∀ (H : Heap) (locs : List Loc), va_P D cl w' H → va_D A w' → va_S A H0 H locs → W p l e R s m args below meth c H locs (cells + mc) (slots + ms) Q (F0 m (pc + 3) ls (.ref ra :: rest))) : W p l e R s m args below meth c H locs cells slots Q (F0 m pc ls st0) :=
  kw_retr (wr := []) hr (by rw [List.append_nil]; exact hP) (by rw [List.append_nil]; exact hD) hS hA (fun H locs h1 h2 h3 => kk H locs (by rw [List.append_nil] at h1; exact h1) (by rw [List.append_nil] at h2; exact h2) h3)
abbrev wgD_find : List Cond := .code yD_find cD_find 2 (some (.object "LoanDesk$Loan")) :: GW
abbrev rm_D_find : Room := { frames := 0, cells := 0, slots := 0, locals := 0 }
set_option maxRecDepth 100000 in
set_option maxHeartbeats 4000000 in
theorem c_D_find (l : Launch) (D : va_G) (G : Nat → ClassId) (a : Nat → Nat) (hd ha : Nat) (cnt today : Int32) (g : Nat → Option Nat) (rest : va_W) (σ : KS) (loan : Int32) (sz : Nat) (hix : ¬ loan < 0 ∧ loan < cnt ∧ vp_in loan 3 ∧ g loan.toNatClampNeg = some (a 0)) : Met l yD_find wgD_find rm_D_find (kw_Pc D vwCl (gt G) [.ref hd, .int loan] (dcl G a hd ha cnt today g rest σ) sz) (kw_r D vwCl (gt G) (dcl G a hd ha cnt today g rest σ) sz (a 0) (dcl G a hd ha cnt today g rest σ)) 0 0 (va_A (dcl G a hd ha cnt today g rest σ) sz) := by
  refine Met.ofW (cc := cD_find) (maxL := 2) (ret := (some (.object "LoanDesk$Loan"))) (by decide) rfl ?_
  intro p e s m args below meth c s₁ B hml hv
  have hx := B.exec
  have hb := B.bytes
  have hr := B.returns
  have hts := atoms_spec (ws := wgD_find) B.pre
  have hg : ∀ w ∈ GW, w.before args s = true := fun w h => hts w (List.mem_cons_of_mem _ h)
  have hown : s.vm.findClass RD = some m.cls := findClass_of_methodNamed B.named
  have hlocks := B.notSynchronized
  obtain ⟨hv, hsz, hP, hK, hD0⟩ := hv
  subst hsz
  have hD := hD0.self (sz := s.heap.size)
  have hS : va_S (va_A (dcl G a hd ha cnt today g rest σ) s.heap.size) s.heap s.heap [] := va_S.rf
  refine kw_entry [.ref hd, .int loan] hv (Nat.le_of_ble_eq_true rfl) (fun ls hl => ?_)
  have hl : lv_has ls 2 [(0, .ref hd), (1, .int loan)] := hl
  refine lv_iload_n hx hb dD_find_0 rfl (lv_at hl 1 rfl) ?_
  refine lv_if_lt (tgt := 12) hx hb dD_find_1 (by decide) (fun h => absurd h hix.1) (fun _ => ?_)
  refine lv_iload_n hx hb dD_find_4 rfl (lv_at hl 1 rfl) ?_
  refine lv_aload_n hx hb dD_find_5 rfl (lv_at hl 0 rfl) ?_
  refine va_get (v := .int cnt) hx hb hg hin_D hown hK hP 8 rfl rfl 1 (by decide) (hg _ gw_28) (fun _ h => h) rfl dD_find_6 ?_
  refine lv_icmp_lt (tgt := 20) hx hb dD_find_9 (by decide) (fun _ => ?_) (fun h => absurd hix.2.1 h)
  refine lv_aload_n hx hb dD_find_20 rfl (lv_at hl 0 rfl) ?_
  refine va_get (v := .ref ha) hx hb hg hin_D hown hK hP 8 rfl rfl 0 (by decide) (hg _ gw_27) (fun _ h => h) rfl dD_find_21 ?_
  refine lv_iload_n hx hb dD_find_24 rfl (lv_at hl 1 rfl) ?_
  refine va_aldq hx hb hK hP 9 3 rfl rfl hix.2.2.1 dD_find_25 ?_
  rw [hix.2.2.2]
  exact W.aret hx hb hr (Or.inl ⟨_, rfl⟩) (Or.inr ⟨_, rfl⟩) (fun t ht hW => ⟨⟨_, a 0, rfl, rfl, rfl, by rw [ht]; exact hP, va_K.moved hW.alike hK, hD⟩, hS.F ht⟩) hS.2.2 dD_find_26
def kD_principal (σ : KS) (today : Int32) (loan : Int32) : Int32 := σ 0 1
abbrev wgD_principal : List Cond := .code yD_principal cD_principal 2 (some .int) :: GW
abbrev rm_D_principal : Room := { frames := 1, cells := 0, slots := 0, locals := 21 }
set_option maxRecDepth 100000 in
set_option maxHeartbeats 4000000 in
theorem c_D_principal (l : Launch) (D : va_G) (G : Nat → ClassId) (a : Nat → Nat) (hd ha : Nat) (cnt today : Int32) (g : Nat → Option Nat) (rest : va_W) (σ : KS) (loan : Int32) (sz : Nat) (hix : ¬ loan < 0 ∧ loan < cnt ∧ vp_in loan 3 ∧ g loan.toNatClampNeg = some (a 0)) : Met l yD_principal wgD_principal rm_D_principal (kw_Pc D vwCl (gt G) [.ref hd, .int loan] (dcl G a hd ha cnt today g rest σ) sz) (kw_i D vwCl (gt G) (dcl G a hd ha cnt today g rest σ) sz (kD_principal σ today loan) (dcl G a hd ha cnt today g rest σ)) 0 0 (va_A (dcl G a hd ha cnt today g rest σ) sz) := by
  refine Met.ofW (cc := cD_principal) (maxL := 2) (ret := (some .int)) (by decide) rfl ?_
  intro p e s m args below meth c s₁ B hml hv
  have hx := B.exec
  have hb := B.bytes
  have hr := B.returns
  have hts := atoms_spec (ws := wgD_principal) B.pre
  have hg : ∀ w ∈ GW, w.before args s = true := fun w h => hts w (List.mem_cons_of_mem _ h)
  have hown : s.vm.findClass RD = some m.cls := findClass_of_methodNamed B.named
  have hlocks := B.notSynchronized
  obtain ⟨hv, hsz, hP, hK, hD0⟩ := hv
  subst hsz
  have hD := hD0.self (sz := s.heap.size)
  have hS : va_S (va_A (dcl G a hd ha cnt today g rest σ) s.heap.size) s.heap s.heap [] := va_S.rf
  refine kw_entry [.ref hd, .int loan] hv (Nat.le_of_ble_eq_true rfl) (fun ls hl => ?_)
  have hl : lv_has ls 2 [(0, .ref hd), (1, .int loan)] := hl
  refine lv_aload_n hx hb dD_principal_0 rfl (lv_at hl 0 rfl) ?_
  refine lv_iload_n hx hb dD_principal_1 rfl (lv_at hl 1 rfl) ?_
  refine kt_retf (va_runV (C := RD) (As := [.int loan]) (rest := []) ⟨hx, hb, hml, hown, hg⟩ (c_D_find l D G a hd ha cnt today g rest σ loan _ hix) ⟨kw_cB (n := 1) hg gw_308 gw_1 gw_306 (by decide +kernel) (by decide +kernel) ⟨Nat.le_of_ble_eq_true rfl, Nat.le_of_ble_eq_true rfl⟩ rfl rfl, hg _ gw_307, hg _ gw_737⟩ (kw_preV (q0 := 8) hK hP hD rfl rfl) rfl rfl hl.1 rfl (lv_room (Nat.le_of_ble_eq_true rfl)) dD_principal_2 ⟨Nat.le_of_ble_eq_true rfl, Nat.le_of_ble_eq_true rfl⟩) hP hD hS (fun _ h => Or.inr h) (fun H locs hP hD hS => ?_)
  refine va_get (v := .int (σ 0 1)) hx hb hg hin_N hown hK hP 0 rfl rfl 6 (by decide) (hg _ gw_227) (fun _ h => h) rfl dD_principal_5 ?_
  have hk9 : kD_principal σ today loan = σ 0 1 := by rfl
  exact kw_iret hx hb hr hlocks hK hP hD hS ⟨hk9.symm, rfl⟩ dD_principal_8
def kD_level (σ : KS) (today : Int32) (loan : Int32) : Int32 := σ 0 2
abbrev wgD_level : List Cond := .code yD_level cD_level 2 (some .int) :: GW
abbrev rm_D_level : Room := { frames := 1, cells := 0, slots := 0, locals := 21 }
set_option maxRecDepth 100000 in
set_option maxHeartbeats 4000000 in
theorem c_D_level (l : Launch) (D : va_G) (G : Nat → ClassId) (a : Nat → Nat) (hd ha : Nat) (cnt today : Int32) (g : Nat → Option Nat) (rest : va_W) (σ : KS) (loan : Int32) (sz : Nat) (hix : ¬ loan < 0 ∧ loan < cnt ∧ vp_in loan 3 ∧ g loan.toNatClampNeg = some (a 0)) : Met l yD_level wgD_level rm_D_level (kw_Pc D vwCl (gt G) [.ref hd, .int loan] (dcl G a hd ha cnt today g rest σ) sz) (kw_i D vwCl (gt G) (dcl G a hd ha cnt today g rest σ) sz (kD_level σ today loan) (dcl G a hd ha cnt today g rest σ)) 0 0 (va_A (dcl G a hd ha cnt today g rest σ) sz) := by
  refine Met.ofW (cc := cD_level) (maxL := 2) (ret := (some .int)) (by decide) rfl ?_
  intro p e s m args below meth c s₁ B hml hv
  have hx := B.exec
  have hb := B.bytes
  have hr := B.returns
  have hts := atoms_spec (ws := wgD_level) B.pre
  have hg : ∀ w ∈ GW, w.before args s = true := fun w h => hts w (List.mem_cons_of_mem _ h)
  have hown : s.vm.findClass RD = some m.cls := findClass_of_methodNamed B.named
  have hlocks := B.notSynchronized
  obtain ⟨hv, hsz, hP, hK, hD0⟩ := hv
  subst hsz
  have hD := hD0.self (sz := s.heap.size)
  have hS : va_S (va_A (dcl G a hd ha cnt today g rest σ) s.heap.size) s.heap s.heap [] := va_S.rf
  refine kw_entry [.ref hd, .int loan] hv (Nat.le_of_ble_eq_true rfl) (fun ls hl => ?_)
  have hl : lv_has ls 2 [(0, .ref hd), (1, .int loan)] := hl
  refine lv_aload_n hx hb dD_level_0 rfl (lv_at hl 0 rfl) ?_
  refine lv_iload_n hx hb dD_level_1 rfl (lv_at hl 1 rfl) ?_
  refine kt_retf (va_runV (C := RD) (As := [.int loan]) (rest := []) ⟨hx, hb, hml, hown, hg⟩ (c_D_find l D G a hd ha cnt today g rest σ loan _ hix) ⟨kw_cB (n := 1) hg gw_308 gw_1 gw_306 (by decide +kernel) (by decide +kernel) ⟨Nat.le_of_ble_eq_true rfl, Nat.le_of_ble_eq_true rfl⟩ rfl rfl, hg _ gw_307, hg _ gw_737⟩ (kw_preV (q0 := 8) hK hP hD rfl rfl) rfl rfl hl.1 rfl (lv_room (Nat.le_of_ble_eq_true rfl)) dD_level_2 ⟨Nat.le_of_ble_eq_true rfl, Nat.le_of_ble_eq_true rfl⟩) hP hD hS (fun _ h => Or.inr h) (fun H locs hP hD hS => ?_)
  refine va_get (v := .int (σ 0 2)) hx hb hg hin_N hown hK hP 0 rfl rfl 7 (by decide) (hg _ gw_229) (fun _ h => h) rfl dD_level_5 ?_
  have hk9 : kD_level σ today loan = σ 0 2 := by rfl
  exact kw_iret hx hb hr hlocks hK hP hD hS ⟨hk9.symm, rfl⟩ dD_level_8
def kD_escrow (σ : KS) (today : Int32) (loan : Int32) : Int32 := σ 0 20
abbrev wgD_escrow : List Cond := .code yD_escrow cD_escrow 2 (some .int) :: GW
abbrev rm_D_escrow : Room := { frames := 1, cells := 0, slots := 0, locals := 21 }
set_option maxRecDepth 100000 in
set_option maxHeartbeats 4000000 in
theorem c_D_escrow (l : Launch) (D : va_G) (G : Nat → ClassId) (a : Nat → Nat) (hd ha : Nat) (cnt today : Int32) (g : Nat → Option Nat) (rest : va_W) (σ : KS) (loan : Int32) (sz : Nat) (hix : ¬ loan < 0 ∧ loan < cnt ∧ vp_in loan 3 ∧ g loan.toNatClampNeg = some (a 0)) : Met l yD_escrow wgD_escrow rm_D_escrow (kw_Pc D vwCl (gt G) [.ref hd, .int loan] (dcl G a hd ha cnt today g rest σ) sz) (kw_i D vwCl (gt G) (dcl G a hd ha cnt today g rest σ) sz (kD_escrow σ today loan) (dcl G a hd ha cnt today g rest σ)) 0 0 (va_A (dcl G a hd ha cnt today g rest σ) sz) := by
  refine Met.ofW (cc := cD_escrow) (maxL := 2) (ret := (some .int)) (by decide) rfl ?_
  intro p e s m args below meth c s₁ B hml hv
  have hx := B.exec
  have hb := B.bytes
  have hr := B.returns
  have hts := atoms_spec (ws := wgD_escrow) B.pre
  have hg : ∀ w ∈ GW, w.before args s = true := fun w h => hts w (List.mem_cons_of_mem _ h)
  have hown : s.vm.findClass RD = some m.cls := findClass_of_methodNamed B.named
  have hlocks := B.notSynchronized
  obtain ⟨hv, hsz, hP, hK, hD0⟩ := hv
  subst hsz
  have hD := hD0.self (sz := s.heap.size)
  have hS : va_S (va_A (dcl G a hd ha cnt today g rest σ) s.heap.size) s.heap s.heap [] := va_S.rf
  refine kw_entry [.ref hd, .int loan] hv (Nat.le_of_ble_eq_true rfl) (fun ls hl => ?_)
  have hl : lv_has ls 2 [(0, .ref hd), (1, .int loan)] := hl
  refine lv_aload_n hx hb dD_escrow_0 rfl (lv_at hl 0 rfl) ?_
  refine lv_iload_n hx hb dD_escrow_1 rfl (lv_at hl 1 rfl) ?_
  refine kt_retf (va_runV (C := RD) (As := [.int loan]) (rest := []) ⟨hx, hb, hml, hown, hg⟩ (c_D_find l D G a hd ha cnt today g rest σ loan _ hix) ⟨kw_cB (n := 1) hg gw_308 gw_1 gw_306 (by decide +kernel) (by decide +kernel) ⟨Nat.le_of_ble_eq_true rfl, Nat.le_of_ble_eq_true rfl⟩ rfl rfl, hg _ gw_307, hg _ gw_737⟩ (kw_preV (q0 := 8) hK hP hD rfl rfl) rfl rfl hl.1 rfl (lv_room (Nat.le_of_ble_eq_true rfl)) dD_escrow_2 ⟨Nat.le_of_ble_eq_true rfl, Nat.le_of_ble_eq_true rfl⟩) hP hD hS (fun _ h => Or.inr h) (fun H locs hP hD hS => ?_)
  refine va_get (v := .ref (a 2)) hx hb hg hin_N hown hK hP 0 rfl rfl 1 (by decide) (hg _ gw_217) (fun _ h => h) rfl dD_escrow_5 ?_
  refine va_get (v := .int (σ 0 20)) hx hb hg hin_A hown hK hP 2 rfl rfl 0 (by decide) (hg _ gw_179) (fun _ h => h) rfl dD_escrow_8 ?_
  have hk9 : kD_escrow σ today loan = σ 0 20 := by rfl
  exact kw_iret hx hb hr hlocks hK hP hD hS ⟨hk9.symm, rfl⟩ dD_escrow_11
def kD_deposit (σ : KS) (today : Int32) (loan : Int32) : Int32 := σ 0 21
abbrev wgD_deposit : List Cond := .code yD_deposit cD_deposit 2 (some .int) :: GW
abbrev rm_D_deposit : Room := { frames := 1, cells := 0, slots := 0, locals := 21 }
set_option maxRecDepth 100000 in
set_option maxHeartbeats 4000000 in
theorem c_D_deposit (l : Launch) (D : va_G) (G : Nat → ClassId) (a : Nat → Nat) (hd ha : Nat) (cnt today : Int32) (g : Nat → Option Nat) (rest : va_W) (σ : KS) (loan : Int32) (sz : Nat) (hix : ¬ loan < 0 ∧ loan < cnt ∧ vp_in loan 3 ∧ g loan.toNatClampNeg = some (a 0)) : Met l yD_deposit wgD_deposit rm_D_deposit (kw_Pc D vwCl (gt G) [.ref hd, .int loan] (dcl G a hd ha cnt today g rest σ) sz) (kw_i D vwCl (gt G) (dcl G a hd ha cnt today g rest σ) sz (kD_deposit σ today loan) (dcl G a hd ha cnt today g rest σ)) 0 0 (va_A (dcl G a hd ha cnt today g rest σ) sz) := by
  refine Met.ofW (cc := cD_deposit) (maxL := 2) (ret := (some .int)) (by decide) rfl ?_
  intro p e s m args below meth c s₁ B hml hv
  have hx := B.exec
  have hb := B.bytes
  have hr := B.returns
  have hts := atoms_spec (ws := wgD_deposit) B.pre
  have hg : ∀ w ∈ GW, w.before args s = true := fun w h => hts w (List.mem_cons_of_mem _ h)
  have hown : s.vm.findClass RD = some m.cls := findClass_of_methodNamed B.named
  have hlocks := B.notSynchronized
  obtain ⟨hv, hsz, hP, hK, hD0⟩ := hv
  subst hsz
  have hD := hD0.self (sz := s.heap.size)
  have hS : va_S (va_A (dcl G a hd ha cnt today g rest σ) s.heap.size) s.heap s.heap [] := va_S.rf
  refine kw_entry [.ref hd, .int loan] hv (Nat.le_of_ble_eq_true rfl) (fun ls hl => ?_)
  have hl : lv_has ls 2 [(0, .ref hd), (1, .int loan)] := hl
  refine lv_aload_n hx hb dD_deposit_0 rfl (lv_at hl 0 rfl) ?_
  refine lv_iload_n hx hb dD_deposit_1 rfl (lv_at hl 1 rfl) ?_
  refine kt_retf (va_runV (C := RD) (As := [.int loan]) (rest := []) ⟨hx, hb, hml, hown, hg⟩ (c_D_find l D G a hd ha cnt today g rest σ loan _ hix) ⟨kw_cB (n := 1) hg gw_308 gw_1 gw_306 (by decide +kernel) (by decide +kernel) ⟨Nat.le_of_ble_eq_true rfl, Nat.le_of_ble_eq_true rfl⟩ rfl rfl, hg _ gw_307, hg _ gw_737⟩ (kw_preV (q0 := 8) hK hP hD rfl rfl) rfl rfl hl.1 rfl (lv_room (Nat.le_of_ble_eq_true rfl)) dD_deposit_2 ⟨Nat.le_of_ble_eq_true rfl, Nat.le_of_ble_eq_true rfl⟩) hP hD hS (fun _ h => Or.inr h) (fun H locs hP hD hS => ?_)
  refine va_get (v := .ref (a 2)) hx hb hg hin_N hown hK hP 0 rfl rfl 1 (by decide) (hg _ gw_217) (fun _ h => h) rfl dD_deposit_5 ?_
  refine va_get (v := .int (σ 0 21)) hx hb hg hin_A hown hK hP 2 rfl rfl 1 (by decide) (hg _ gw_182) (fun _ h => h) rfl dD_deposit_8 ?_
  have hk9 : kD_deposit σ today loan = σ 0 21 := by rfl
  exact kw_iret hx hb hr hlocks hK hP hD hS ⟨hk9.symm, rfl⟩ dD_deposit_11
def kD_bills (σ : KS) (today : Int32) (loan : Int32) : Int32 := σ 0 30
abbrev wgD_bills : List Cond := .code yD_bills cD_bills 2 (some .int) :: GW
abbrev rm_D_bills : Room := { frames := 1, cells := 0, slots := 0, locals := 21 }
set_option maxRecDepth 100000 in
set_option maxHeartbeats 4000000 in
theorem c_D_bills (l : Launch) (D : va_G) (G : Nat → ClassId) (a : Nat → Nat) (hd ha : Nat) (cnt today : Int32) (g : Nat → Option Nat) (rest : va_W) (σ : KS) (loan : Int32) (sz : Nat) (hix : ¬ loan < 0 ∧ loan < cnt ∧ vp_in loan 3 ∧ g loan.toNatClampNeg = some (a 0)) : Met l yD_bills wgD_bills rm_D_bills (kw_Pc D vwCl (gt G) [.ref hd, .int loan] (dcl G a hd ha cnt today g rest σ) sz) (kw_i D vwCl (gt G) (dcl G a hd ha cnt today g rest σ) sz (kD_bills σ today loan) (dcl G a hd ha cnt today g rest σ)) 0 0 (va_A (dcl G a hd ha cnt today g rest σ) sz) := by
  refine Met.ofW (cc := cD_bills) (maxL := 2) (ret := (some .int)) (by decide) rfl ?_
  intro p e s m args below meth c s₁ B hml hv
  have hx := B.exec
  have hb := B.bytes
  have hr := B.returns
  have hts := atoms_spec (ws := wgD_bills) B.pre
  have hg : ∀ w ∈ GW, w.before args s = true := fun w h => hts w (List.mem_cons_of_mem _ h)
  have hown : s.vm.findClass RD = some m.cls := findClass_of_methodNamed B.named
  have hlocks := B.notSynchronized
  obtain ⟨hv, hsz, hP, hK, hD0⟩ := hv
  subst hsz
  have hD := hD0.self (sz := s.heap.size)
  have hS : va_S (va_A (dcl G a hd ha cnt today g rest σ) s.heap.size) s.heap s.heap [] := va_S.rf
  refine kw_entry [.ref hd, .int loan] hv (Nat.le_of_ble_eq_true rfl) (fun ls hl => ?_)
  have hl : lv_has ls 2 [(0, .ref hd), (1, .int loan)] := hl
  refine lv_aload_n hx hb dD_bills_0 rfl (lv_at hl 0 rfl) ?_
  refine lv_iload_n hx hb dD_bills_1 rfl (lv_at hl 1 rfl) ?_
  refine kt_retf (va_runV (C := RD) (As := [.int loan]) (rest := []) ⟨hx, hb, hml, hown, hg⟩ (c_D_find l D G a hd ha cnt today g rest σ loan _ hix) ⟨kw_cB (n := 1) hg gw_308 gw_1 gw_306 (by decide +kernel) (by decide +kernel) ⟨Nat.le_of_ble_eq_true rfl, Nat.le_of_ble_eq_true rfl⟩ rfl rfl, hg _ gw_307, hg _ gw_737⟩ (kw_preV (q0 := 8) hK hP hD rfl rfl) rfl rfl hl.1 rfl (lv_room (Nat.le_of_ble_eq_true rfl)) dD_bills_2 ⟨Nat.le_of_ble_eq_true rfl, Nat.le_of_ble_eq_true rfl⟩) hP hD hS (fun _ h => Or.inr h) (fun H locs hP hD hS => ?_)
  refine va_get (v := .ref (a 3)) hx hb hg hin_N hown hK hP 0 rfl rfl 2 (by decide) (hg _ gw_219) (fun _ h => h) rfl dD_bills_5 ?_
  refine va_get (v := .int (σ 0 30)) hx hb hg hin_B hown hK hP 3 rfl rfl 1 (by decide) (hg _ gw_199) (fun _ h => h) rfl dD_bills_8 ?_
  have hk9 : kD_bills σ today loan = σ 0 30 := by rfl
  exact kw_iret hx hb hr hlocks hK hP hD hS ⟨hk9.symm, rfl⟩ dD_bills_11
def kD_accrued (σ : KS) (today : Int32) (loan : Int32) : Int32 := (kN_accruedBy σ today)
abbrev wgD_accrued : List Cond := .code yD_accrued cD_accrued 2 (some .int) :: GW
abbrev rm_D_accrued : Room := { frames := 4, cells := 0, slots := 0, locals := 90 }
set_option maxRecDepth 100000 in
set_option maxHeartbeats 4000000 in
theorem c_D_accrued (l : Launch) (D : va_G) (G : Nat → ClassId) (a : Nat → Nat) (hd ha : Nat) (cnt today : Int32) (g : Nat → Option Nat) (rest : va_W) (σ : KS) (loan : Int32) (sz : Nat) (hix : ¬ loan < 0 ∧ loan < cnt ∧ vp_in loan 3 ∧ g loan.toNatClampNeg = some (a 0)) : Met l yD_accrued wgD_accrued rm_D_accrued (kw_Pc D vwCl (gt G) [.ref hd, .int loan] (dcl G a hd ha cnt today g rest σ) sz) (kw_i D vwCl (gt G) (dcl G a hd ha cnt today g rest σ) sz (kD_accrued σ today loan) (dcl G a hd ha cnt today g rest σ)) 0 0 (va_A (dcl G a hd ha cnt today g rest σ) sz) := by
  refine Met.ofW (cc := cD_accrued) (maxL := 2) (ret := (some .int)) (by decide) rfl ?_
  intro p e s m args below meth c s₁ B hml hv
  have hx := B.exec
  have hb := B.bytes
  have hr := B.returns
  have hts := atoms_spec (ws := wgD_accrued) B.pre
  have hg : ∀ w ∈ GW, w.before args s = true := fun w h => hts w (List.mem_cons_of_mem _ h)
  have hown : s.vm.findClass RD = some m.cls := findClass_of_methodNamed B.named
  have hlocks := B.notSynchronized
  obtain ⟨hv, hsz, hP, hK, hD0⟩ := hv
  subst hsz
  have hD := hD0.self (sz := s.heap.size)
  have hS : va_S (va_A (dcl G a hd ha cnt today g rest σ) s.heap.size) s.heap s.heap [] := va_S.rf
  refine kw_entry [.ref hd, .int loan] hv (Nat.le_of_ble_eq_true rfl) (fun ls hl => ?_)
  have hl : lv_has ls 2 [(0, .ref hd), (1, .int loan)] := hl
  refine lv_aload_n hx hb dD_accrued_0 rfl (lv_at hl 0 rfl) ?_
  refine lv_iload_n hx hb dD_accrued_1 rfl (lv_at hl 1 rfl) ?_
  refine kt_retf (va_runV (C := RD) (As := [.int loan]) (rest := []) ⟨hx, hb, hml, hown, hg⟩ (c_D_find l D G a hd ha cnt today g rest σ loan _ hix) ⟨kw_cB (n := 1) hg gw_308 gw_1 gw_306 (by decide +kernel) (by decide +kernel) ⟨Nat.le_of_ble_eq_true rfl, Nat.le_of_ble_eq_true rfl⟩ rfl rfl, hg _ gw_307, hg _ gw_737⟩ (kw_preV (q0 := 8) hK hP hD rfl rfl) rfl rfl hl.1 rfl (lv_room (Nat.le_of_ble_eq_true rfl)) dD_accrued_2 ⟨Nat.le_of_ble_eq_true rfl, Nat.le_of_ble_eq_true rfl⟩) hP hD hS (fun _ h => Or.inr h) (fun H locs hP hD hS => ?_)
  refine lv_aload_n hx hb dD_accrued_5 rfl (lv_at hl 0 rfl) ?_
  refine va_get (v := .int today) hx hb hg hin_D hown hK hP 8 rfl rfl 2 (by decide) (hg _ gw_29) (fun _ h => h) rfl dD_accrued_6 ?_
  refine kw_reti (wc := lcells G a σ) (wr := (dtl G hd ha cnt today g rest)) (va_runV (C := RN) (As := [.int today]) (rest := []) ⟨hx, hb, hml, hown, hg⟩ (c_N_accruedBy l D G a σ today _) ⟨kw_cB (n := 1) hg gw_364 gw_10 gw_428 (by decide +kernel) (by decide +kernel) ⟨Nat.le_of_ble_eq_true rfl, Nat.le_of_ble_eq_true rfl⟩ rfl rfl, hg _ gw_362, hg _ gw_363⟩ (kw_preV (q0 := 0) hK (kw_Pl (w1 := lcells G a σ) (w2 := (dtl G hd ha cnt today g rest)) hP) (kw_Dl (w1 := lcells G a σ) (w2 := (dtl G hd ha cnt today g rest)) hD) rfl rfl) rfl rfl hl.1 rfl (lv_room (Nat.le_of_ble_eq_true rfl)) dD_accrued_9 ⟨Nat.le_of_ble_eq_true rfl, Nat.le_of_ble_eq_true rfl⟩) hP hD hS (fun _ h => Or.inr h) (fun H locs hP hD hS => ?_)
  refine lv_topi (fun r_1 e_2 => ?_)
  replace e_2 := e_2.symm
  have hk9 : kD_accrued σ today loan = r_1 := by subst e_2; rfl
  exact kw_iret hx hb hr hlocks hK hP hD hS ⟨hk9.symm, rfl⟩ dD_accrued_12
def kD_charge (σ : KS) (today : Int32) (loan : Int32) (charge : Int32) : Int32 × Int32 × KS := if (kD_within charge (0 : Int32) (10000000 : Int32)) = (0 : Int32) then (1, 0, σ) else (0, 0, (kA_agreeOn σ charge))
abbrev wgD_charge : List Cond := .code yD_charge cD_charge 4 none :: GW
abbrev rm_D_charge : Room := { frames := 6, cells := 1, slots := 6, locals := 81 }
set_option maxRecDepth 100000 in
set_option maxHeartbeats 4000000 in
theorem c_D_charge (l : Launch) (hlt : l.stackTraces = false) (D : va_G) (G : Nat → ClassId) (a : Nat → Nat) (hd ha : Nat) (cnt today : Int32) (g : Nat → Option Nat) (rest : va_W) (σ : KS) (loan : Int32) (charge : Int32) (sz : Nat) (hix : ¬ loan < 0 ∧ loan < cnt ∧ vp_in loan 3 ∧ g loan.toNatClampNeg = some (a 0)) : vx_Met l yD_charge wgD_charge rm_D_charge (kt_Pc D vwCl (gt G) [.ref hd, .int loan, .int charge] (dcl G a hd ha cnt today g rest σ) sz) (kt_v D vwCl (gt G) (dcl G a hd ha cnt today g rest σ) sz ((kD_charge σ today loan charge).1 = 0) (dcl G a hd ha cnt today g rest (kD_charge σ today loan charge).2.2)) (kt_X D vwCl (gt G) (dcl G a hd ha cnt today g rest σ) sz (fun E => (kD_charge σ today loan charge).1 = ecd E)) 1 6 (va_A (dcl G a hd ha cnt today g rest σ) sz) := by
  refine vx_ofW (cc := cD_charge) (maxL := 4) (ret := none) (by decide) rfl ?_
  intro p e s m args below meth c s₁ B hml hnt hv
  have hx := B.exec
  have hb := B.bytes
  have hr := B.returns
  have hts := atoms_spec (ws := wgD_charge) B.pre
  have hg : ∀ w ∈ GW, w.before args s = true := fun w h => hts w (List.mem_cons_of_mem _ h)
  have hown : s.vm.findClass RD = some m.cls := findClass_of_methodNamed B.named
  have hlocks := B.notSynchronized
  obtain ⟨⟨hv, hsz, hP, hK, hD0⟩, hE⟩ := hv
  subst hsz
  have hD := hD0.self (sz := s.heap.size)
  have hS : va_S (va_A (dcl G a hd ha cnt today g rest σ) s.heap.size) s.heap s.heap [] := va_S.rf
  refine kw_entry [.ref hd, .int loan, .int charge] hv (Nat.le_of_ble_eq_true rfl) (fun ls hl => ?_)
  have hl : lv_has ls 4 [(0, .ref hd), (1, .int loan), (2, .int charge)] := hl
  refine lv_aload_n hx hb dD_charge_0 rfl (lv_at hl 0 rfl) ?_
  refine lv_iload_n hx hb dD_charge_1 rfl (lv_at hl 1 rfl) ?_
  refine kt_retf (va_runV (C := RD) (As := [.int loan]) (rest := []) ⟨hx, hb, hml, hown, hg⟩ (c_D_find l D G a hd ha cnt today g rest σ loan _ hix) ⟨kw_cB (n := 1) hg gw_308 gw_1 gw_306 (by decide +kernel) (by decide +kernel) ⟨Nat.le_of_ble_eq_true rfl, Nat.le_of_ble_eq_true rfl⟩ rfl rfl, hg _ gw_307, hg _ gw_737⟩ (kw_preV (q0 := 8) hK hP hD rfl rfl) rfl rfl hl.1 rfl (lv_room (Nat.le_of_ble_eq_true rfl)) dD_charge_2 ⟨Nat.le_of_ble_eq_true rfl, Nat.le_of_ble_eq_true rfl⟩) hP hD hS (fun _ h => Or.inr h) (fun H locs hP hD hS => ?_)
  refine lv_astore_n hx hb dD_charge_5 rfl hl (by decide) rfl (fun ls hl => ?_)
  have hl : lv_has ls 4 [(3, .ref (a 0)), (0, .ref hd), (1, .int loan), (2, .int charge)] := hl
  refine lv_iload_n hx hb dD_charge_6 rfl (lv_at hl 3 rfl) ?_
  refine lv_iconst (v := 0) hx hb dD_charge_7 (by decide) ?_
  refine lv_ldc (v := 10000000) hx hb hown (hg _ gw_323) dD_charge_8 ?_
  refine kp_reti (va_runS (As := [.int charge, .int 0, .int 10000000]) (rest := []) ⟨hx, hb, hml, hown, hg⟩ (c_D_within l charge (0 : Int32) (10000000 : Int32)) ⟨kw_cB (n := 3) hg gw_63 gw_1 gw_61 (by decide +kernel) (by decide +kernel) ⟨Nat.le_of_ble_eq_true rfl, Nat.le_of_ble_eq_true rfl⟩ rfl rfl, hg _ gw_62⟩ kp_pre rfl rfl hl.1 rfl (lv_room (Nat.le_of_ble_eq_true rfl)) dD_charge_10 ⟨Nat.le_of_ble_eq_true rfl, Nat.le_of_ble_eq_true rfl⟩) ?_
  refine lv_topi (fun r_1 e_2 => ?_)
  replace e_2 := e_2.symm
  refine lv_if_ne (tgt := 24) hx hb dD_charge_13 (by decide) (fun h3 => ?_) (fun h3 => ?_)
  · skip
    refine lv_aload_n hx hb dD_charge_24 rfl (lv_at hl 0 rfl) ?_
    refine va_get (v := .ref (a 2)) hx hb hg hin_N hown hK hP 0 rfl rfl 1 (by decide) (hg _ gw_217) (fun _ h => h) rfl dD_charge_25 ?_
    refine lv_iload_n hx hb dD_charge_28 rfl (lv_at hl 3 rfl) ?_
    refine kw_retv (wc := lcells G a σ) (wr := (dtl G hd ha cnt today g rest)) (va_runV (C := RA) (As := [.int charge]) (rest := []) ⟨hx, hb, hml, hown, hg⟩ (c_A_agreeOn l D G a σ charge _) ⟨kw_cB (n := 1) hg gw_327 gw_11 gw_324 (by decide +kernel) (by decide +kernel) ⟨Nat.le_of_ble_eq_true rfl, Nat.le_of_ble_eq_true rfl⟩ rfl rfl, hg _ gw_325, hg _ gw_326⟩ (kw_preV (q0 := 2) hK (kw_Pl (w1 := lcells G a σ) (w2 := (dtl G hd ha cnt today g rest)) hP) (kw_Dl (w1 := lcells G a σ) (w2 := (dtl G hd ha cnt today g rest)) hD) rfl rfl) rfl rfl hl.1 rfl (lv_room (Nat.le_of_ble_eq_true rfl)) dD_charge_29 ⟨Nat.le_of_ble_eq_true rfl, Nat.le_of_ble_eq_true rfl⟩) hP hD hS (fun _ h => Or.inr h) (fun H locs hP hD hS => ?_)
    obtain ⟨S_4, e_5⟩ : ∃ z : KS, (kA_agreeOn σ charge) = z := ⟨_, rfl⟩
    rw [e_5] at hP hD
    have hk9 : kD_charge σ today loan charge = (0, 0, S_4) := by subst e_2 e_5; unfold kD_charge; rw [if_neg h3]
    refine W.widen (k := 1) (n := 6) (by decide) (by decide) ?_
    exact kt_vret hx hb hr hlocks hK hP hD hS (kt_fin1 (f := dcl G a hd ha cnt today g rest) (S := S_4) rfl hk9) dD_charge_32
  · skip
    have hk9 : kD_charge σ today loan charge = (1, 0, σ) := by subst e_2; unfold kD_charge; rw [if_pos h3]
    exact kt_throw hx hb hlt hg hown hE (by decide +kernel) gw_64 gw_6 kt_gA kt_bA kt_inA kt_oA hnt hK hP hD hS (hl.1.trans hml.symm) dD_charge_16 dD_charge_19 dD_charge_20 dD_charge_23 (Nat.le_of_ble_eq_true rfl) (Nat.le_of_ble_eq_true rfl) (Nat.le_of_ble_eq_true rfl) (Nat.le_of_ble_eq_true rfl) hlocks (Nat.le_of_ble_eq_true rfl) (Nat.le_of_ble_eq_true rfl) (by rw [hk9]; exact (show (1 : Int32) = ecd eA by decide +kernel))
def dte (G : Nat → ClassId) (hd ha : Nat) (cnt today : Int32) (g : Nat → Option Nat) (rest : va_W) (_ : KS) : va_W := dtl G hd ha cnt today g rest
theorem kw_win {v a b : Int32} (h : ¬ kD_within v a b = 0) : a.toInt ≤ v.toInt ∧ v.toInt ≤ b.toInt := by
  unfold kD_within at h
  by_cases h1 : v < a
  · exact absurd (if_pos h1) h
  · by_cases h2 : b < v
    · exact absurd ((if_neg h1).trans (if_pos h2)) h
    · rw [Int32.lt_iff_toInt_lt] at h1 h2
      omega
theorem kw_win6 {v : Int32} (h : ¬ kD_within v 0 5 = 0) : vp_in v 6 := by
  have h := kw_win h
  rw [vp_in_iff]
  have e0 : (0 : Int32).toInt = 0 := by decide
  have e3 : (5 : Int32).toInt = 5 := by decide
  omega
theorem kw_win4 {v : Int32} (h : ¬ kD_within v 0 3 = 0) : vp_in v 4 := by
  have h := kw_win h
  rw [vp_in_iff]
  have e0 : (0 : Int32).toInt = 0 := by decide
  have e3 : (3 : Int32).toInt = 3 := by decide
  omega
theorem kw_winb {k w x : Int32} {cn : Nat} (hcn : x = nI cn) (hcl : cn ≤ 50) (hw : ¬ kD_within w 0 4 = 0) (hk : ¬ kD_within k 0 (x - 1) = 0) : vp_in (k * 5 + w) 250 := by
  have hw := kw_win hw
  have hk := kw_win hk
  have e0 : (0 : Int32).toInt = 0 := by decide
  have e4 : (4 : Int32).toInt = 4 := by decide
  have e1 : (x - 1).toInt = (cn : Int) - 1 := by
    subst hcn
    exact pk_sub_toInt (a := cn) (b := 1) (by omega) (by decide)
  obtain ⟨j, hj, rfl⟩ := vp_in_of (x := k) (n := 50) (vp_in_iff.mpr (by omega)) (by decide)
  obtain ⟨i, hi, rfl⟩ := vp_in_of (x := w) (n := 5) (vp_in_iff.mpr (by omega)) (by decide)
  rw [show nI j * 5 = nI (j * 5) from pk_mul j 5, nI_add]
  exact vp_in_nI (by omega) (by decide)
def kD_pay (σ : KS) (today : Int32) (loan : Int32) (cents : Int32) : Int32 × Int32 × KS := if (kD_within cents (1 : Int32) (200000000 : Int32)) = (0 : Int32) then (1, 0, σ) else (0, ((kN_takePayment σ cents today).1), ((kN_takePayment σ cents today).2))
abbrev wgD_pay : List Cond := .code yD_pay cD_pay 4 (some .int) :: GW
abbrev rm_D_pay : Room := { frames := 6, cells := 1, slots := 6, locals := 152 }
set_option maxRecDepth 100000 in
set_option maxHeartbeats 4000000 in
theorem c_D_pay (l : Launch) (hlt : l.stackTraces = false) (D : va_G) (G : Nat → ClassId) (a : Nat → Nat) (hd ha : Nat) (cnt today : Int32) (g : Nat → Option Nat) (rest : va_W) (σ : KS) (loan : Int32) (cents : Int32) (sz : Nat) (hix : ¬ loan < 0 ∧ loan < cnt ∧ vp_in loan 3 ∧ g loan.toNatClampNeg = some (a 0)) : vx_Met l yD_pay wgD_pay rm_D_pay (kt_Pc D vwCl (gt G) [.ref hd, .int loan, .int cents] (dcl G a hd ha cnt today g rest σ) sz) (kt_i D vwCl (gt G) (dcl G a hd ha cnt today g rest σ) sz ((kD_pay σ today loan cents).1 = 0) ((kD_pay σ today loan cents).2.1) (dcl G a hd ha cnt today g rest (kD_pay σ today loan cents).2.2)) (kt_X D vwCl (gt G) (dcl G a hd ha cnt today g rest σ) sz (fun E => (kD_pay σ today loan cents).1 = ecd E)) 1 6 (va_A (dcl G a hd ha cnt today g rest σ) sz) := by
  refine vx_ofW (cc := cD_pay) (maxL := 4) (ret := (some .int)) (by decide) rfl ?_
  intro p e s m args below meth c s₁ B hml hnt hv
  have hx := B.exec
  have hb := B.bytes
  have hr := B.returns
  have hts := atoms_spec (ws := wgD_pay) B.pre
  have hg : ∀ w ∈ GW, w.before args s = true := fun w h => hts w (List.mem_cons_of_mem _ h)
  have hown : s.vm.findClass RD = some m.cls := findClass_of_methodNamed B.named
  have hlocks := B.notSynchronized
  obtain ⟨⟨hv, hsz, hP, hK, hD0⟩, hE⟩ := hv
  subst hsz
  have hD := hD0.self (sz := s.heap.size)
  have hS : va_S (va_A (dcl G a hd ha cnt today g rest σ) s.heap.size) s.heap s.heap [] := va_S.rf
  refine kw_entry [.ref hd, .int loan, .int cents] hv (Nat.le_of_ble_eq_true rfl) (fun ls hl => ?_)
  have hl : lv_has ls 4 [(0, .ref hd), (1, .int loan), (2, .int cents)] := hl
  refine lv_aload_n hx hb dD_pay_0 rfl (lv_at hl 0 rfl) ?_
  refine lv_iload_n hx hb dD_pay_1 rfl (lv_at hl 1 rfl) ?_
  refine kt_retf (va_runV (C := RD) (As := [.int loan]) (rest := []) ⟨hx, hb, hml, hown, hg⟩ (c_D_find l D G a hd ha cnt today g rest σ loan _ hix) ⟨kw_cB (n := 1) hg gw_308 gw_1 gw_306 (by decide +kernel) (by decide +kernel) ⟨Nat.le_of_ble_eq_true rfl, Nat.le_of_ble_eq_true rfl⟩ rfl rfl, hg _ gw_307, hg _ gw_737⟩ (kw_preV (q0 := 8) hK hP hD rfl rfl) rfl rfl hl.1 rfl (lv_room (Nat.le_of_ble_eq_true rfl)) dD_pay_2 ⟨Nat.le_of_ble_eq_true rfl, Nat.le_of_ble_eq_true rfl⟩) hP hD hS (fun _ h => Or.inr h) (fun H locs hP hD hS => ?_)
  refine lv_astore_n hx hb dD_pay_5 rfl hl (by decide) rfl (fun ls hl => ?_)
  have hl : lv_has ls 4 [(3, .ref (a 0)), (0, .ref hd), (1, .int loan), (2, .int cents)] := hl
  refine lv_iload_n hx hb dD_pay_6 rfl (lv_at hl 3 rfl) ?_
  refine lv_iconst (v := 1) hx hb dD_pay_7 (by decide) ?_
  refine lv_ldc (v := 200000000) hx hb hown (hg _ gw_383) dD_pay_8 ?_
  refine kp_reti (va_runS (As := [.int cents, .int 1, .int 200000000]) (rest := []) ⟨hx, hb, hml, hown, hg⟩ (c_D_within l cents (1 : Int32) (200000000 : Int32)) ⟨kw_cB (n := 3) hg gw_63 gw_1 gw_61 (by decide +kernel) (by decide +kernel) ⟨Nat.le_of_ble_eq_true rfl, Nat.le_of_ble_eq_true rfl⟩ rfl rfl, hg _ gw_62⟩ kp_pre rfl rfl hl.1 rfl (lv_room (Nat.le_of_ble_eq_true rfl)) dD_pay_10 ⟨Nat.le_of_ble_eq_true rfl, Nat.le_of_ble_eq_true rfl⟩) ?_
  refine lv_topi (fun r_1 e_2 => ?_)
  replace e_2 := e_2.symm
  refine lv_if_ne (tgt := 24) hx hb dD_pay_13 (by decide) (fun h3 => ?_) (fun h3 => ?_)
  · skip
    refine lv_aload_n hx hb dD_pay_24 rfl (lv_at hl 0 rfl) ?_
    refine lv_iload_n hx hb dD_pay_25 rfl (lv_at hl 3 rfl) ?_
    refine lv_aload_n hx hb dD_pay_26 rfl (lv_at hl 1 rfl) ?_
    refine va_get (v := .int today) hx hb hg hin_D hown hK hP 8 rfl rfl 2 (by decide) (hg _ gw_29) (fun _ h => h) rfl dD_pay_27 ?_
    refine kw_reti (wc := lcells G a σ) (wr := (dtl G hd ha cnt today g rest)) (va_runV (C := RN) (As := [.int cents, .int today]) (rest := []) ⟨hx, hb, hml, hown, hg⟩ (c_N_takePayment l D G a σ cents today _) ⟨kw_cB (n := 2) hg gw_387 gw_10 gw_384 (by decide +kernel) (by decide +kernel) ⟨Nat.le_of_ble_eq_true rfl, Nat.le_of_ble_eq_true rfl⟩ rfl rfl, hg _ gw_385, hg _ gw_386⟩ (kw_preV (q0 := 0) hK (kw_Pl (w1 := lcells G a σ) (w2 := (dtl G hd ha cnt today g rest)) hP) (kw_Dl (w1 := lcells G a σ) (w2 := (dtl G hd ha cnt today g rest)) hD) rfl rfl) rfl rfl hl.1 rfl (lv_room (Nat.le_of_ble_eq_true rfl)) dD_pay_30 ⟨Nat.le_of_ble_eq_true rfl, Nat.le_of_ble_eq_true rfl⟩) hP hD hS (fun _ h => Or.inr h) (fun H locs hP hD hS => ?_)
    refine lv_topi (fun r_4 e_5 => ?_)
    replace e_5 := e_5.symm
    obtain ⟨S_6, e_7⟩ : ∃ z : KS, (kN_takePayment σ cents today).2 = z := ⟨_, rfl⟩
    rw [e_7] at hP hD
    have hk9 : kD_pay σ today loan cents = (0, r_4, S_6) := by subst e_2 e_5 e_7; unfold kD_pay; rw [if_neg h3]
    refine W.widen (k := 1) (n := 6) (by decide) (by decide) ?_
    exact kt_iret hx hb hr hlocks hK hP hD hS (kt_fin (f := dcl G a hd ha cnt today g rest) (S := S_6) rfl hk9) dD_pay_33
  · skip
    have hk9 : kD_pay σ today loan cents = (1, 0, σ) := by subst e_2; unfold kD_pay; rw [if_pos h3]
    exact kt_throw hx hb hlt hg hown hE (by decide +kernel) gw_64 gw_6 kt_gA kt_bA kt_inA kt_oA hnt hK hP hD hS (hl.1.trans hml.symm) dD_pay_16 dD_pay_19 dD_pay_20 dD_pay_23 (Nat.le_of_ble_eq_true rfl) (Nat.le_of_ble_eq_true rfl) (Nat.le_of_ble_eq_true rfl) (Nat.le_of_ble_eq_true rfl) hlocks (Nat.le_of_ble_eq_true rfl) (Nat.le_of_ble_eq_true rfl) (by rw [hk9]; exact (show (1 : Int32) = ecd eA by decide +kernel))
def kD_due (σ : KS) (today : Int32) (loan : Int32) (kk : Int32) : Int32 × Int32 × KS := if (kD_within kk (1 : Int32) (100 : Int32)) = (0 : Int32) then (1, 0, σ) else (0, (kT_dueDay σ kk), σ)
abbrev wgD_due : List Cond := .code yD_due cD_due 4 (some .int) :: GW
abbrev rm_D_due : Room := { frames := 6, cells := 1, slots := 6, locals := 81 }
set_option maxRecDepth 100000 in
set_option maxHeartbeats 4000000 in
theorem c_D_due (l : Launch) (hlt : l.stackTraces = false) (D : va_G) (G : Nat → ClassId) (a : Nat → Nat) (hd ha : Nat) (cnt today : Int32) (g : Nat → Option Nat) (rest : va_W) (σ : KS) (loan : Int32) (kk : Int32) (sz : Nat) (hix : ¬ loan < 0 ∧ loan < cnt ∧ vp_in loan 3 ∧ g loan.toNatClampNeg = some (a 0)) : vx_Met l yD_due wgD_due rm_D_due (kt_Pc D vwCl (gt G) [.ref hd, .int loan, .int kk] (dcl G a hd ha cnt today g rest σ) sz) (kt_i D vwCl (gt G) (dcl G a hd ha cnt today g rest σ) sz ((kD_due σ today loan kk).1 = 0) ((kD_due σ today loan kk).2.1) (dcl G a hd ha cnt today g rest (kD_due σ today loan kk).2.2)) (kt_X D vwCl (gt G) (dcl G a hd ha cnt today g rest σ) sz (fun E => (kD_due σ today loan kk).1 = ecd E)) 1 6 (va_A (dcl G a hd ha cnt today g rest σ) sz) := by
  refine vx_ofW (cc := cD_due) (maxL := 4) (ret := (some .int)) (by decide) rfl ?_
  intro p e s m args below meth c s₁ B hml hnt hv
  have hx := B.exec
  have hb := B.bytes
  have hr := B.returns
  have hts := atoms_spec (ws := wgD_due) B.pre
  have hg : ∀ w ∈ GW, w.before args s = true := fun w h => hts w (List.mem_cons_of_mem _ h)
  have hown : s.vm.findClass RD = some m.cls := findClass_of_methodNamed B.named
  have hlocks := B.notSynchronized
  obtain ⟨⟨hv, hsz, hP, hK, hD0⟩, hE⟩ := hv
  subst hsz
  have hD := hD0.self (sz := s.heap.size)
  have hS : va_S (va_A (dcl G a hd ha cnt today g rest σ) s.heap.size) s.heap s.heap [] := va_S.rf
  refine kw_entry [.ref hd, .int loan, .int kk] hv (Nat.le_of_ble_eq_true rfl) (fun ls hl => ?_)
  have hl : lv_has ls 4 [(0, .ref hd), (1, .int loan), (2, .int kk)] := hl
  refine lv_aload_n hx hb dD_due_0 rfl (lv_at hl 0 rfl) ?_
  refine lv_iload_n hx hb dD_due_1 rfl (lv_at hl 1 rfl) ?_
  refine kt_retf (va_runV (C := RD) (As := [.int loan]) (rest := []) ⟨hx, hb, hml, hown, hg⟩ (c_D_find l D G a hd ha cnt today g rest σ loan _ hix) ⟨kw_cB (n := 1) hg gw_308 gw_1 gw_306 (by decide +kernel) (by decide +kernel) ⟨Nat.le_of_ble_eq_true rfl, Nat.le_of_ble_eq_true rfl⟩ rfl rfl, hg _ gw_307, hg _ gw_737⟩ (kw_preV (q0 := 8) hK hP hD rfl rfl) rfl rfl hl.1 rfl (lv_room (Nat.le_of_ble_eq_true rfl)) dD_due_2 ⟨Nat.le_of_ble_eq_true rfl, Nat.le_of_ble_eq_true rfl⟩) hP hD hS (fun _ h => Or.inr h) (fun H locs hP hD hS => ?_)
  refine lv_astore_n hx hb dD_due_5 rfl hl (by decide) rfl (fun ls hl => ?_)
  have hl : lv_has ls 4 [(3, .ref (a 0)), (0, .ref hd), (1, .int loan), (2, .int kk)] := hl
  refine lv_iload_n hx hb dD_due_6 rfl (lv_at hl 3 rfl) ?_
  refine lv_iconst (v := 1) hx hb dD_due_7 (by decide) ?_
  refine lv_bipush (v := 100) hx hb dD_due_8 (by decide) ?_
  refine kp_reti (va_runS (As := [.int kk, .int 1, .int 100]) (rest := []) ⟨hx, hb, hml, hown, hg⟩ (c_D_within l kk (1 : Int32) (100 : Int32)) ⟨kw_cB (n := 3) hg gw_63 gw_1 gw_61 (by decide +kernel) (by decide +kernel) ⟨Nat.le_of_ble_eq_true rfl, Nat.le_of_ble_eq_true rfl⟩ rfl rfl, hg _ gw_62⟩ kp_pre rfl rfl hl.1 rfl (lv_room (Nat.le_of_ble_eq_true rfl)) dD_due_10 ⟨Nat.le_of_ble_eq_true rfl, Nat.le_of_ble_eq_true rfl⟩) ?_
  refine lv_topi (fun r_1 e_2 => ?_)
  replace e_2 := e_2.symm
  refine lv_if_ne (tgt := 24) hx hb dD_due_13 (by decide) (fun h3 => ?_) (fun h3 => ?_)
  · skip
    refine lv_aload_n hx hb dD_due_24 rfl (lv_at hl 0 rfl) ?_
    refine va_get (v := .ref (a 1)) hx hb hg hin_N hown hK hP 0 rfl rfl 0 (by decide) (hg _ gw_215) (fun _ h => h) rfl dD_due_25 ?_
    refine lv_iload_n hx hb dD_due_28 rfl (lv_at hl 3 rfl) ?_
    refine kw_reti (wc := lcells G a σ) (wr := (dtl G hd ha cnt today g rest)) (va_runV (C := RT) (As := [.int kk]) (rest := []) ⟨hx, hb, hml, hown, hg⟩ (c_T_dueDay l D G a σ kk _) ⟨kw_cB (n := 1) hg gw_209 gw_8 gw_406 (by decide +kernel) (by decide +kernel) ⟨Nat.le_of_ble_eq_true rfl, Nat.le_of_ble_eq_true rfl⟩ rfl rfl, hg _ gw_207, hg _ gw_208⟩ (kw_preV (q0 := 1) hK (kw_Pl (w1 := lcells G a σ) (w2 := (dtl G hd ha cnt today g rest)) hP) (kw_Dl (w1 := lcells G a σ) (w2 := (dtl G hd ha cnt today g rest)) hD) rfl rfl) rfl rfl hl.1 rfl (lv_room (Nat.le_of_ble_eq_true rfl)) dD_due_29 ⟨Nat.le_of_ble_eq_true rfl, Nat.le_of_ble_eq_true rfl⟩) hP hD hS (fun _ h => Or.inr h) (fun H locs hP hD hS => ?_)
    refine lv_topi (fun r_4 e_5 => ?_)
    replace e_5 := e_5.symm
    have hk9 : kD_due σ today loan kk = (0, r_4, σ) := by subst e_2 e_5; unfold kD_due; rw [if_neg h3]
    refine W.widen (k := 1) (n := 6) (by decide) (by decide) ?_
    exact kt_iret hx hb hr hlocks hK hP hD hS (kt_fin (f := dcl G a hd ha cnt today g rest) (S := σ) rfl hk9) dD_due_32
  · skip
    have hk9 : kD_due σ today loan kk = (1, 0, σ) := by subst e_2; unfold kD_due; rw [if_pos h3]
    exact kt_throw hx hb hlt hg hown hE (by decide +kernel) gw_64 gw_6 kt_gA kt_bA kt_inA kt_oA hnt hK hP hD hS (hl.1.trans hml.symm) dD_due_16 dD_due_19 dD_due_20 dD_due_23 (Nat.le_of_ble_eq_true rfl) (Nat.le_of_ble_eq_true rfl) (Nat.le_of_ble_eq_true rfl) (Nat.le_of_ble_eq_true rfl) hlocks (Nat.le_of_ble_eq_true rfl) (Nat.le_of_ble_eq_true rfl) (by rw [hk9]; exact (show (1 : Int32) = ecd eA by decide +kernel))
def kD_part (σ : KS) (today : Int32) (loan : Int32) (what : Int32) : Int32 × Int32 × KS := if (kD_within what (0 : Int32) (5 : Int32)) = (0 : Int32) then (1, 0, σ) else (if (σ 0 0) = (0 : Int32) then (2, 0, σ) else (0, σ 2 what.toNatClampNeg, σ))
abbrev wgD_part : List Cond := .code yD_part cD_part 4 (some .int) :: GW
abbrev rm_D_part : Room := { frames := 6, cells := 1, slots := 6, locals := 81 }
set_option maxRecDepth 100000 in
set_option maxHeartbeats 4000000 in
theorem c_D_part (l : Launch) (hlt : l.stackTraces = false) (D : va_G) (G : Nat → ClassId) (a : Nat → Nat) (hd ha : Nat) (cnt today : Int32) (g : Nat → Option Nat) (rest : va_W) (σ : KS) (loan : Int32) (what : Int32) (sz : Nat) (hix : ¬ loan < 0 ∧ loan < cnt ∧ vp_in loan 3 ∧ g loan.toNatClampNeg = some (a 0)) : vx_Met l yD_part wgD_part rm_D_part (kt_Pc D vwCl (gt G) [.ref hd, .int loan, .int what] (dcl G a hd ha cnt today g rest σ) sz) (kt_i D vwCl (gt G) (dcl G a hd ha cnt today g rest σ) sz ((kD_part σ today loan what).1 = 0) ((kD_part σ today loan what).2.1) (dcl G a hd ha cnt today g rest (kD_part σ today loan what).2.2)) (kt_X D vwCl (gt G) (dcl G a hd ha cnt today g rest σ) sz (fun E => (kD_part σ today loan what).1 = ecd E)) 1 6 (va_A (dcl G a hd ha cnt today g rest σ) sz) := by
  refine vx_ofW (cc := cD_part) (maxL := 4) (ret := (some .int)) (by decide) rfl ?_
  intro p e s m args below meth c s₁ B hml hnt hv
  have hx := B.exec
  have hb := B.bytes
  have hr := B.returns
  have hts := atoms_spec (ws := wgD_part) B.pre
  have hg : ∀ w ∈ GW, w.before args s = true := fun w h => hts w (List.mem_cons_of_mem _ h)
  have hown : s.vm.findClass RD = some m.cls := findClass_of_methodNamed B.named
  have hlocks := B.notSynchronized
  obtain ⟨⟨hv, hsz, hP, hK, hD0⟩, hE⟩ := hv
  subst hsz
  have hD := hD0.self (sz := s.heap.size)
  have hS : va_S (va_A (dcl G a hd ha cnt today g rest σ) s.heap.size) s.heap s.heap [] := va_S.rf
  refine kw_entry [.ref hd, .int loan, .int what] hv (Nat.le_of_ble_eq_true rfl) (fun ls hl => ?_)
  have hl : lv_has ls 4 [(0, .ref hd), (1, .int loan), (2, .int what)] := hl
  refine lv_aload_n hx hb dD_part_0 rfl (lv_at hl 0 rfl) ?_
  refine lv_iload_n hx hb dD_part_1 rfl (lv_at hl 1 rfl) ?_
  refine kt_retf (va_runV (C := RD) (As := [.int loan]) (rest := []) ⟨hx, hb, hml, hown, hg⟩ (c_D_find l D G a hd ha cnt today g rest σ loan _ hix) ⟨kw_cB (n := 1) hg gw_308 gw_1 gw_306 (by decide +kernel) (by decide +kernel) ⟨Nat.le_of_ble_eq_true rfl, Nat.le_of_ble_eq_true rfl⟩ rfl rfl, hg _ gw_307, hg _ gw_737⟩ (kw_preV (q0 := 8) hK hP hD rfl rfl) rfl rfl hl.1 rfl (lv_room (Nat.le_of_ble_eq_true rfl)) dD_part_2 ⟨Nat.le_of_ble_eq_true rfl, Nat.le_of_ble_eq_true rfl⟩) hP hD hS (fun _ h => Or.inr h) (fun H locs hP hD hS => ?_)
  refine lv_astore_n hx hb dD_part_5 rfl hl (by decide) rfl (fun ls hl => ?_)
  have hl : lv_has ls 4 [(3, .ref (a 0)), (0, .ref hd), (1, .int loan), (2, .int what)] := hl
  refine lv_iload_n hx hb dD_part_6 rfl (lv_at hl 3 rfl) ?_
  refine lv_iconst (v := 0) hx hb dD_part_7 (by decide) ?_
  refine lv_iconst (v := 5) hx hb dD_part_8 (by decide) ?_
  refine kp_reti (va_runS (As := [.int what, .int 0, .int 5]) (rest := []) ⟨hx, hb, hml, hown, hg⟩ (c_D_within l what (0 : Int32) (5 : Int32)) ⟨kw_cB (n := 3) hg gw_63 gw_1 gw_61 (by decide +kernel) (by decide +kernel) ⟨Nat.le_of_ble_eq_true rfl, Nat.le_of_ble_eq_true rfl⟩ rfl rfl, hg _ gw_62⟩ kp_pre rfl rfl hl.1 rfl (lv_room (Nat.le_of_ble_eq_true rfl)) dD_part_9 ⟨Nat.le_of_ble_eq_true rfl, Nat.le_of_ble_eq_true rfl⟩) ?_
  refine lv_topi (fun r_1 e_2 => ?_)
  replace e_2 := e_2.symm
  refine lv_if_ne (tgt := 23) hx hb dD_part_12 (by decide) (fun h3 => ?_) (fun h3 => ?_)
  · skip
    refine lv_aload_n hx hb dD_part_23 rfl (lv_at hl 0 rfl) ?_
    refine va_get (v := .int (σ 0 0)) hx hb hg hin_N hown hK hP 0 rfl rfl 5 (by decide) (hg _ gw_224) (fun _ h => h) rfl dD_part_24 ?_
    refine lv_if_ne (tgt := 38) hx hb dD_part_27 (by decide) (fun h4 => ?_) (fun h4 => ?_)
    · skip
      refine lv_aload_n hx hb dD_part_38 rfl (lv_at hl 0 rfl) ?_
      refine va_get (v := .ref (a 5)) hx hb hg hin_N hown hK hP 0 rfl rfl 4 (by decide) (hg _ gw_223) (fun _ h => h) rfl dD_part_39 ?_
      refine lv_iload_n hx hb dD_part_42 rfl (lv_at hl 3 rfl) ?_
      refine kw_iald (v := σ 2 what.toNatClampNeg) (j := what.toNatClampNeg) hx hb hK hP 5 0 rfl rfl (kw_win6 (by subst e_2; exact h3)) rfl rfl dD_part_43 ?_
      have hk9 : kD_part σ today loan what = (0, σ 2 what.toNatClampNeg, σ) := by subst e_2; unfold kD_part; rw [if_neg h3, if_neg h4]
      refine W.widen (k := 1) (n := 6) (by decide) (by decide) ?_
      exact kt_iret hx hb hr hlocks hK hP hD hS (kt_fin (f := dcl G a hd ha cnt today g rest) (S := σ) rfl hk9) dD_part_44
    · skip
      have hk9 : kD_part σ today loan what = (2, 0, σ) := by subst e_2; unfold kD_part; rw [if_neg h3, if_pos h4]
      exact kt_throw hx hb hlt hg hown hE (by decide +kernel) gw_118 gw_7 kt_gS kt_bS kt_inS kt_oS hnt hK hP hD hS (hl.1.trans hml.symm) dD_part_30 dD_part_33 dD_part_34 dD_part_37 (Nat.le_of_ble_eq_true rfl) (Nat.le_of_ble_eq_true rfl) (Nat.le_of_ble_eq_true rfl) (Nat.le_of_ble_eq_true rfl) hlocks (Nat.le_of_ble_eq_true rfl) (Nat.le_of_ble_eq_true rfl) (by rw [hk9]; exact (show (2 : Int32) = ecd eS by decide +kernel))
  · skip
    have hk9 : kD_part σ today loan what = (1, 0, σ) := by subst e_2; unfold kD_part; rw [if_pos h3]
    exact kt_throw hx hb hlt hg hown hE (by decide +kernel) gw_64 gw_6 kt_gA kt_bA kt_inA kt_oA hnt hK hP hD hS (hl.1.trans hml.symm) dD_part_15 dD_part_18 dD_part_19 dD_part_22 (Nat.le_of_ble_eq_true rfl) (Nat.le_of_ble_eq_true rfl) (Nat.le_of_ble_eq_true rfl) (Nat.le_of_ble_eq_true rfl) hlocks (Nat.le_of_ble_eq_true rfl) (Nat.le_of_ble_eq_true rfl) (by rw [hk9]; exact (show (1 : Int32) = ecd eA by decide +kernel))
def kD_owed (σ : KS) (today : Int32) (loan : Int32) (what : Int32) : Int32 × Int32 × KS := if (kD_within what (0 : Int32) (3 : Int32)) = (0 : Int32) then (1, 0, σ) else (0, σ 1 what.toNatClampNeg, σ)
abbrev wgD_owed : List Cond := .code yD_owed cD_owed 4 (some .int) :: GW
abbrev rm_D_owed : Room := { frames := 6, cells := 1, slots := 6, locals := 81 }
set_option maxRecDepth 100000 in
set_option maxHeartbeats 4000000 in
theorem c_D_owed (l : Launch) (hlt : l.stackTraces = false) (D : va_G) (G : Nat → ClassId) (a : Nat → Nat) (hd ha : Nat) (cnt today : Int32) (g : Nat → Option Nat) (rest : va_W) (σ : KS) (loan : Int32) (what : Int32) (sz : Nat) (hix : ¬ loan < 0 ∧ loan < cnt ∧ vp_in loan 3 ∧ g loan.toNatClampNeg = some (a 0)) : vx_Met l yD_owed wgD_owed rm_D_owed (kt_Pc D vwCl (gt G) [.ref hd, .int loan, .int what] (dcl G a hd ha cnt today g rest σ) sz) (kt_i D vwCl (gt G) (dcl G a hd ha cnt today g rest σ) sz ((kD_owed σ today loan what).1 = 0) ((kD_owed σ today loan what).2.1) (dcl G a hd ha cnt today g rest (kD_owed σ today loan what).2.2)) (kt_X D vwCl (gt G) (dcl G a hd ha cnt today g rest σ) sz (fun E => (kD_owed σ today loan what).1 = ecd E)) 1 6 (va_A (dcl G a hd ha cnt today g rest σ) sz) := by
  refine vx_ofW (cc := cD_owed) (maxL := 4) (ret := (some .int)) (by decide) rfl ?_
  intro p e s m args below meth c s₁ B hml hnt hv
  have hx := B.exec
  have hb := B.bytes
  have hr := B.returns
  have hts := atoms_spec (ws := wgD_owed) B.pre
  have hg : ∀ w ∈ GW, w.before args s = true := fun w h => hts w (List.mem_cons_of_mem _ h)
  have hown : s.vm.findClass RD = some m.cls := findClass_of_methodNamed B.named
  have hlocks := B.notSynchronized
  obtain ⟨⟨hv, hsz, hP, hK, hD0⟩, hE⟩ := hv
  subst hsz
  have hD := hD0.self (sz := s.heap.size)
  have hS : va_S (va_A (dcl G a hd ha cnt today g rest σ) s.heap.size) s.heap s.heap [] := va_S.rf
  refine kw_entry [.ref hd, .int loan, .int what] hv (Nat.le_of_ble_eq_true rfl) (fun ls hl => ?_)
  have hl : lv_has ls 4 [(0, .ref hd), (1, .int loan), (2, .int what)] := hl
  refine lv_aload_n hx hb dD_owed_0 rfl (lv_at hl 0 rfl) ?_
  refine lv_iload_n hx hb dD_owed_1 rfl (lv_at hl 1 rfl) ?_
  refine kt_retf (va_runV (C := RD) (As := [.int loan]) (rest := []) ⟨hx, hb, hml, hown, hg⟩ (c_D_find l D G a hd ha cnt today g rest σ loan _ hix) ⟨kw_cB (n := 1) hg gw_308 gw_1 gw_306 (by decide +kernel) (by decide +kernel) ⟨Nat.le_of_ble_eq_true rfl, Nat.le_of_ble_eq_true rfl⟩ rfl rfl, hg _ gw_307, hg _ gw_737⟩ (kw_preV (q0 := 8) hK hP hD rfl rfl) rfl rfl hl.1 rfl (lv_room (Nat.le_of_ble_eq_true rfl)) dD_owed_2 ⟨Nat.le_of_ble_eq_true rfl, Nat.le_of_ble_eq_true rfl⟩) hP hD hS (fun _ h => Or.inr h) (fun H locs hP hD hS => ?_)
  refine lv_astore_n hx hb dD_owed_5 rfl hl (by decide) rfl (fun ls hl => ?_)
  have hl : lv_has ls 4 [(3, .ref (a 0)), (0, .ref hd), (1, .int loan), (2, .int what)] := hl
  refine lv_iload_n hx hb dD_owed_6 rfl (lv_at hl 3 rfl) ?_
  refine lv_iconst (v := 0) hx hb dD_owed_7 (by decide) ?_
  refine lv_iconst (v := 3) hx hb dD_owed_8 (by decide) ?_
  refine kp_reti (va_runS (As := [.int what, .int 0, .int 3]) (rest := []) ⟨hx, hb, hml, hown, hg⟩ (c_D_within l what (0 : Int32) (3 : Int32)) ⟨kw_cB (n := 3) hg gw_63 gw_1 gw_61 (by decide +kernel) (by decide +kernel) ⟨Nat.le_of_ble_eq_true rfl, Nat.le_of_ble_eq_true rfl⟩ rfl rfl, hg _ gw_62⟩ kp_pre rfl rfl hl.1 rfl (lv_room (Nat.le_of_ble_eq_true rfl)) dD_owed_9 ⟨Nat.le_of_ble_eq_true rfl, Nat.le_of_ble_eq_true rfl⟩) ?_
  refine lv_topi (fun r_1 e_2 => ?_)
  replace e_2 := e_2.symm
  refine lv_if_ne (tgt := 23) hx hb dD_owed_12 (by decide) (fun h3 => ?_) (fun h3 => ?_)
  · skip
    refine lv_aload_n hx hb dD_owed_23 rfl (lv_at hl 0 rfl) ?_
    refine va_get (v := .ref (a 4)) hx hb hg hin_N hown hK hP 0 rfl rfl 3 (by decide) (hg _ gw_221) (fun _ h => h) rfl dD_owed_24 ?_
    refine lv_iload_n hx hb dD_owed_27 rfl (lv_at hl 3 rfl) ?_
    refine kw_iald (v := σ 1 what.toNatClampNeg) (j := what.toNatClampNeg) hx hb hK hP 4 0 rfl rfl (kw_win4 (by subst e_2; exact h3)) rfl rfl dD_owed_28 ?_
    have hk9 : kD_owed σ today loan what = (0, σ 1 what.toNatClampNeg, σ) := by subst e_2; unfold kD_owed; rw [if_neg h3]
    refine W.widen (k := 1) (n := 6) (by decide) (by decide) ?_
    exact kt_iret hx hb hr hlocks hK hP hD hS (kt_fin (f := dcl G a hd ha cnt today g rest) (S := σ) rfl hk9) dD_owed_29
  · skip
    have hk9 : kD_owed σ today loan what = (1, 0, σ) := by subst e_2; unfold kD_owed; rw [if_pos h3]
    exact kt_throw hx hb hlt hg hown hE (by decide +kernel) gw_64 gw_6 kt_gA kt_bA kt_inA kt_oA hnt hK hP hD hS (hl.1.trans hml.symm) dD_owed_15 dD_owed_18 dD_owed_19 dD_owed_22 (Nat.le_of_ble_eq_true rfl) (Nat.le_of_ble_eq_true rfl) (Nat.le_of_ble_eq_true rfl) (Nat.le_of_ble_eq_true rfl) hlocks (Nat.le_of_ble_eq_true rfl) (Nat.le_of_ble_eq_true rfl) (by rw [hk9]; exact (show (1 : Int32) = ecd eA by decide +kernel))
def kD_bill (σ : KS) (today : Int32) (loan : Int32) (kk : Int32) (what : Int32) : Int32 × Int32 × KS := if (kD_within what (0 : Int32) (4 : Int32)) = (0 : Int32) then (1, 0, σ) else (if (kD_within kk (0 : Int32) ((σ 0 30) - 1)) = (0 : Int32) then (4, 0, σ) else (0, σ 4 (((kk * 5) + what).toNatClampNeg), σ))
abbrev wgD_bill : List Cond := .code yD_bill cD_bill 5 (some .int) :: GW
abbrev rm_D_bill : Room := { frames := 6, cells := 1, slots := 6, locals := 81 }
set_option maxRecDepth 100000 in
set_option maxHeartbeats 4000000 in
theorem c_D_bill (l : Launch) (hlt : l.stackTraces = false) (D : va_G) (G : Nat → ClassId) (a : Nat → Nat) (hd ha : Nat) (cnt today : Int32) (g : Nat → Option Nat) (rest : va_W) (σ : KS) (loan : Int32) (kk : Int32) (what : Int32) (sz : Nat) (hix : ¬ loan < 0 ∧ loan < cnt ∧ vp_in loan 3 ∧ g loan.toNatClampNeg = some (a 0)) (cn : Nat) (hcn : σ 0 30 = nI cn) (hcl : cn ≤ 50) : vx_Met l yD_bill wgD_bill rm_D_bill (kt_Pc D vwCl (gt G) [.ref hd, .int loan, .int kk, .int what] (dcl G a hd ha cnt today g rest σ) sz) (kt_i D vwCl (gt G) (dcl G a hd ha cnt today g rest σ) sz ((kD_bill σ today loan kk what).1 = 0) ((kD_bill σ today loan kk what).2.1) (dcl G a hd ha cnt today g rest (kD_bill σ today loan kk what).2.2)) (kt_X D vwCl (gt G) (dcl G a hd ha cnt today g rest σ) sz (fun E => (kD_bill σ today loan kk what).1 = ecd E)) 1 6 (va_A (dcl G a hd ha cnt today g rest σ) sz) := by
  refine vx_ofW (cc := cD_bill) (maxL := 5) (ret := (some .int)) (by decide) rfl ?_
  intro p e s m args below meth c s₁ B hml hnt hv
  have hx := B.exec
  have hb := B.bytes
  have hr := B.returns
  have hts := atoms_spec (ws := wgD_bill) B.pre
  have hg : ∀ w ∈ GW, w.before args s = true := fun w h => hts w (List.mem_cons_of_mem _ h)
  have hown : s.vm.findClass RD = some m.cls := findClass_of_methodNamed B.named
  have hlocks := B.notSynchronized
  obtain ⟨⟨hv, hsz, hP, hK, hD0⟩, hE⟩ := hv
  subst hsz
  have hD := hD0.self (sz := s.heap.size)
  have hS : va_S (va_A (dcl G a hd ha cnt today g rest σ) s.heap.size) s.heap s.heap [] := va_S.rf
  refine kw_entry [.ref hd, .int loan, .int kk, .int what] hv (Nat.le_of_ble_eq_true rfl) (fun ls hl => ?_)
  have hl : lv_has ls 5 [(0, .ref hd), (1, .int loan), (2, .int kk), (3, .int what)] := hl
  refine lv_aload_n hx hb dD_bill_0 rfl (lv_at hl 0 rfl) ?_
  refine lv_iload_n hx hb dD_bill_1 rfl (lv_at hl 1 rfl) ?_
  refine kt_retf (va_runV (C := RD) (As := [.int loan]) (rest := []) ⟨hx, hb, hml, hown, hg⟩ (c_D_find l D G a hd ha cnt today g rest σ loan _ hix) ⟨kw_cB (n := 1) hg gw_308 gw_1 gw_306 (by decide +kernel) (by decide +kernel) ⟨Nat.le_of_ble_eq_true rfl, Nat.le_of_ble_eq_true rfl⟩ rfl rfl, hg _ gw_307, hg _ gw_737⟩ (kw_preV (q0 := 8) hK hP hD rfl rfl) rfl rfl hl.1 rfl (lv_room (Nat.le_of_ble_eq_true rfl)) dD_bill_2 ⟨Nat.le_of_ble_eq_true rfl, Nat.le_of_ble_eq_true rfl⟩) hP hD hS (fun _ h => Or.inr h) (fun H locs hP hD hS => ?_)
  refine lv_astore hx hb dD_bill_5 hl (by decide) rfl (fun ls hl => ?_)
  have hl : lv_has ls 5 [(4, .ref (a 0)), (0, .ref hd), (1, .int loan), (2, .int kk), (3, .int what)] := hl
  refine lv_iload_n hx hb dD_bill_7 rfl (lv_at hl 4 rfl) ?_
  refine lv_iconst (v := 0) hx hb dD_bill_8 (by decide) ?_
  refine lv_iconst (v := 4) hx hb dD_bill_9 (by decide) ?_
  refine kp_reti (va_runS (As := [.int what, .int 0, .int 4]) (rest := []) ⟨hx, hb, hml, hown, hg⟩ (c_D_within l what (0 : Int32) (4 : Int32)) ⟨kw_cB (n := 3) hg gw_63 gw_1 gw_61 (by decide +kernel) (by decide +kernel) ⟨Nat.le_of_ble_eq_true rfl, Nat.le_of_ble_eq_true rfl⟩ rfl rfl, hg _ gw_62⟩ kp_pre rfl rfl hl.1 rfl (lv_room (Nat.le_of_ble_eq_true rfl)) dD_bill_10 ⟨Nat.le_of_ble_eq_true rfl, Nat.le_of_ble_eq_true rfl⟩) ?_
  refine lv_topi (fun r_1 e_2 => ?_)
  replace e_2 := e_2.symm
  refine lv_if_ne (tgt := 24) hx hb dD_bill_13 (by decide) (fun h3 => ?_) (fun h3 => ?_)
  · skip
    refine lv_iload_n hx hb dD_bill_24 rfl (lv_at hl 3 rfl) ?_
    refine lv_iconst (v := 0) hx hb dD_bill_25 (by decide) ?_
    refine lv_aload hx hb dD_bill_26 (lv_at hl 0 rfl) ?_
    refine va_get (v := .ref (a 3)) hx hb hg hin_N hown hK hP 0 rfl rfl 2 (by decide) (hg _ gw_219) (fun _ h => h) rfl dD_bill_28 ?_
    refine va_get (v := .int (σ 0 30)) hx hb hg hin_B hown hK hP 3 rfl rfl 1 (by decide) (hg _ gw_199) (fun _ h => h) rfl dD_bill_31 ?_
    refine lv_iconst (v := 1) hx hb dD_bill_34 (by decide) ?_
    refine lv_isub hx hb dD_bill_35 ?_
    refine kp_reti (va_runS (As := [.int kk, .int 0, .int ((σ 0 30) - 1)]) (rest := []) ⟨hx, hb, hml, hown, hg⟩ (c_D_within l kk (0 : Int32) ((σ 0 30) - 1)) ⟨kw_cB (n := 3) hg gw_63 gw_1 gw_61 (by decide +kernel) (by decide +kernel) ⟨Nat.le_of_ble_eq_true rfl, Nat.le_of_ble_eq_true rfl⟩ rfl rfl, hg _ gw_62⟩ kp_pre rfl rfl hl.1 rfl (lv_room (Nat.le_of_ble_eq_true rfl)) dD_bill_36 ⟨Nat.le_of_ble_eq_true rfl, Nat.le_of_ble_eq_true rfl⟩) ?_
    refine lv_topi (fun r_4 e_5 => ?_)
    replace e_5 := e_5.symm
    refine lv_if_ne (tgt := 50) hx hb dD_bill_39 (by decide) (fun h6 => ?_) (fun h6 => ?_)
    · skip
      refine lv_aload hx hb dD_bill_50 (lv_at hl 0 rfl) ?_
      refine va_get (v := .ref (a 3)) hx hb hg hin_N hown hK hP 0 rfl rfl 2 (by decide) (hg _ gw_219) (fun _ h => h) rfl dD_bill_52 ?_
      refine va_get (v := .ref (a 7)) hx hb hg hin_B hown hK hP 3 rfl rfl 0 (by decide) (hg _ gw_197) (fun _ h => h) rfl dD_bill_55 ?_
      refine lv_iload_n hx hb dD_bill_58 rfl (lv_at hl 3 rfl) ?_
      refine lv_iconst (v := 5) hx hb dD_bill_59 (by decide) ?_
      refine lv_imul hx hb dD_bill_60 ?_
      refine lv_iload_n hx hb dD_bill_61 rfl (lv_at hl 4 rfl) ?_
      refine lv_iadd hx hb dD_bill_62 ?_
      refine kw_iald (v := σ 4 (((kk * 5) + what).toNatClampNeg)) (j := (((kk * 5) + what).toNatClampNeg)) hx hb hK hP 7 0 rfl rfl (kw_winb hcn hcl (by subst e_2 e_5; exact h3) (by subst e_2 e_5; exact h6)) rfl rfl dD_bill_63 ?_
      have hk9 : kD_bill σ today loan kk what = (0, σ 4 (((kk * 5) + what).toNatClampNeg), σ) := by subst e_2 e_5; unfold kD_bill; rw [if_neg h3, if_neg h6]
      refine W.widen (k := 1) (n := 6) (by decide) (by decide) ?_
      exact kt_iret hx hb hr hlocks hK hP hD hS (kt_fin (f := dcl G a hd ha cnt today g rest) (S := σ) rfl hk9) dD_bill_64
    · skip
      have hk9 : kD_bill σ today loan kk what = (4, 0, σ) := by subst e_2 e_5; unfold kD_bill; rw [if_neg h3, if_pos h6]
      exact kt_throw hx hb hlt hg hown hE (by decide +kernel) gw_465 gw_17 kt_gN kt_bN kt_inN kt_oN hnt hK hP hD hS (hl.1.trans hml.symm) dD_bill_42 dD_bill_45 dD_bill_46 dD_bill_49 (Nat.le_of_ble_eq_true rfl) (Nat.le_of_ble_eq_true rfl) (Nat.le_of_ble_eq_true rfl) (Nat.le_of_ble_eq_true rfl) hlocks (Nat.le_of_ble_eq_true rfl) (Nat.le_of_ble_eq_true rfl) (by rw [hk9]; exact (show (4 : Int32) = ecd eN by decide +kernel))
  · skip
    have hk9 : kD_bill σ today loan kk what = (1, 0, σ) := by subst e_2; unfold kD_bill; rw [if_pos h3]
    exact kt_throw hx hb hlt hg hown hE (by decide +kernel) gw_64 gw_6 kt_gA kt_bA kt_inA kt_oA hnt hK hP hD hS (hl.1.trans hml.symm) dD_bill_16 dD_bill_19 dD_bill_20 dD_bill_23 (Nat.le_of_ble_eq_true rfl) (Nat.le_of_ble_eq_true rfl) (Nat.le_of_ble_eq_true rfl) (Nat.le_of_ble_eq_true rfl) hlocks (Nat.le_of_ble_eq_true rfl) (Nat.le_of_ble_eq_true rfl) (by rw [hk9]; exact (show (1 : Int32) = ecd eA by decide +kernel))
def kD_date (σ : KS) (today : Int32) : Int32 := ((10000 * (2000 + ((kY_monthOf today) / 12))) + (100 * (((kY_monthOf today) - (kY_monthOf today) / 12 * 12) + 1))) + (kY_numberInMonth today)
abbrev wgD_date : List Cond := .code yD_date cD_date 2 (some .int) :: GW
abbrev rm_D_date : Room := { frames := 2, cells := 0, slots := 0, locals := 43 }
set_option maxRecDepth 100000 in
set_option maxHeartbeats 4000000 in
theorem c_D_date (l : Launch) (D : va_G) (G : Nat → ClassId) (hd ha : Nat) (cnt today : Int32) (g : Nat → Option Nat) (rest : va_W) (σ : KS)  (sz : Nat)  : Met l yD_date wgD_date rm_D_date (kw_Pc D vwCl (gt G) [.ref hd] (dte G hd ha cnt today g rest σ) sz) (kw_i D vwCl (gt G) (dte G hd ha cnt today g rest σ) sz (kD_date σ today) (dte G hd ha cnt today g rest σ)) 0 0 (va_A (dte G hd ha cnt today g rest σ) sz) := by
  refine Met.ofW (cc := cD_date) (maxL := 2) (ret := (some .int)) (by decide) rfl ?_
  intro p e s m args below meth c s₁ B hml hv
  have hx := B.exec
  have hb := B.bytes
  have hr := B.returns
  have hts := atoms_spec (ws := wgD_date) B.pre
  have hg : ∀ w ∈ GW, w.before args s = true := fun w h => hts w (List.mem_cons_of_mem _ h)
  have hown : s.vm.findClass RD = some m.cls := findClass_of_methodNamed B.named
  have hlocks := B.notSynchronized
  obtain ⟨hv, hsz, hP, hK, hD0⟩ := hv
  subst hsz
  have hD := hD0.self (sz := s.heap.size)
  have hS : va_S (va_A (dte G hd ha cnt today g rest σ) s.heap.size) s.heap s.heap [] := va_S.rf
  refine kw_entry [.ref hd] hv (Nat.le_of_ble_eq_true rfl) (fun ls hl => ?_)
  have hl : lv_has ls 2 [(0, .ref hd)] := hl
  refine lv_aload_n hx hb dD_date_0 rfl (lv_at hl 0 rfl) ?_
  refine va_get (v := .int today) hx hb hg hin_D hown hK hP 0 rfl rfl 2 (by decide) (hg _ gw_29) (fun _ h => h) rfl dD_date_1 ?_
  refine kp_reti (va_runS (As := [.int today]) (rest := []) ⟨hx, hb, hml, hown, hg⟩ (c_Y_monthOf l today) ⟨kw_cB (n := 1) hg gw_43 gw_9 gw_41 (by decide +kernel) (by decide +kernel) ⟨Nat.le_of_ble_eq_true rfl, Nat.le_of_ble_eq_true rfl⟩ rfl rfl, hg _ gw_42⟩ kp_pre rfl rfl hl.1 rfl (lv_room (Nat.le_of_ble_eq_true rfl)) dD_date_4 ⟨Nat.le_of_ble_eq_true rfl, Nat.le_of_ble_eq_true rfl⟩) ?_
  refine lv_topi (fun r_1 e_2 => ?_)
  replace e_2 := e_2.symm
  refine lv_istore_n hx hb dD_date_7 rfl hl (by decide) rfl (fun ls hl => ?_)
  have hl : lv_has ls 2 [(1, .int r_1), (0, .ref hd)] := hl
  refine lv_sipush (v := 10000) hx hb dD_date_8 (by decide) ?_
  refine lv_sipush (v := 2000) hx hb dD_date_11 (by decide) ?_
  refine lv_iload_n hx hb dD_date_14 rfl (lv_at hl 0 rfl) ?_
  refine lv_bipush (v := 12) hx hb dD_date_15 (by decide) ?_
  refine lv_idiv hx hb dD_date_17 (by decide) ?_
  refine lv_iadd hx hb dD_date_18 ?_
  refine lv_imul hx hb dD_date_19 ?_
  refine lv_bipush (v := 100) hx hb dD_date_20 (by decide) ?_
  refine lv_iload_n hx hb dD_date_22 rfl (lv_at hl 0 rfl) ?_
  refine lv_bipush (v := 12) hx hb dD_date_23 (by decide) ?_
  refine lv_irem hx hb dD_date_25 (by decide) ?_
  refine lv_iconst (v := 1) hx hb dD_date_26 (by decide) ?_
  refine lv_iadd hx hb dD_date_27 ?_
  refine lv_imul hx hb dD_date_28 ?_
  refine lv_iadd hx hb dD_date_29 ?_
  refine lv_aload_n hx hb dD_date_30 rfl (lv_at hl 1 rfl) ?_
  refine va_get (v := .int today) hx hb hg hin_D hown hK hP 0 rfl rfl 2 (by decide) (hg _ gw_29) (fun _ h => h) rfl dD_date_31 ?_
  refine kp_reti (va_runS (As := [.int today]) (rest := [.int ((10000 * (2000 + (r_1 / 12))) + (100 * ((r_1 - r_1 / 12 * 12) + 1)))]) ⟨hx, hb, hml, hown, hg⟩ (c_Y_numberInMonth l today) ⟨kw_cB (n := 1) hg gw_46 gw_9 gw_44 (by decide +kernel) (by decide +kernel) ⟨Nat.le_of_ble_eq_true rfl, Nat.le_of_ble_eq_true rfl⟩ rfl rfl, hg _ gw_45⟩ kp_pre rfl rfl hl.1 rfl (lv_room (Nat.le_of_ble_eq_true rfl)) dD_date_34 ⟨Nat.le_of_ble_eq_true rfl, Nat.le_of_ble_eq_true rfl⟩) ?_
  refine lv_topi (fun r_3 e_4 => ?_)
  replace e_4 := e_4.symm
  refine lv_iadd hx hb dD_date_37 ?_
  have hk9 : kD_date σ today = ((10000 * (2000 + (r_1 / 12))) + (100 * ((r_1 - r_1 / 12 * 12) + 1))) + r_3 := by subst e_2 e_4; rfl
  exact kw_iret hx hb hr hlocks hK hP hD hS ⟨hk9.symm, rfl⟩ dD_date_38
def kD_interest (σ : KS) (today : Int32) (amount : Int32) (rate : Int32) (frm : Int32) (to : Int32) (rule : Int32) (rounding : Int32) : Int32 × Int32 × KS := if (kD_within amount (0 : Int32) (100000000 : Int32)) = (0 : Int32) then (1, 0, σ) else (if (kD_within rate (0 : Int32) (30000 : Int32)) = (0 : Int32) then (1, 0, σ) else (if (kD_within frm (0 : Int32) (4000 : Int32)) = (0 : Int32) then (1, 0, σ) else (if (kD_within to frm (4000 : Int32)) = (0 : Int32) then (1, 0, σ) else (if (kD_within rule (0 : Int32) (3 : Int32)) = (0 : Int32) then (1, 0, σ) else (if (kD_within rounding (0 : Int32) (3 : Int32)) = (0 : Int32) then (1, 0, σ) else (0, (kC_interestOn amount rate (kS_top rule frm to) rule rounding), σ))))))
abbrev wgD_interest : List Cond := .code yD_interest cD_interest 7 (some .int) :: GW
abbrev rm_D_interest : Room := { frames := 6, cells := 1, slots := 6, locals := 81 }
set_option maxRecDepth 100000 in
set_option maxHeartbeats 4000000 in
theorem c_D_interest (l : Launch) (hlt : l.stackTraces = false) (D : va_G) (G : Nat → ClassId) (hd ha : Nat) (cnt today : Int32) (g : Nat → Option Nat) (rest : va_W) (σ : KS) (amount : Int32) (rate : Int32) (frm : Int32) (to : Int32) (rule : Int32) (rounding : Int32) (sz : Nat)  : vx_Met l yD_interest wgD_interest rm_D_interest (kt_Pc D vwCl (gt G) [.ref hd, .int amount, .int rate, .int frm, .int to, .int rule, .int rounding] (dte G hd ha cnt today g rest σ) sz) (kt_i D vwCl (gt G) (dte G hd ha cnt today g rest σ) sz ((kD_interest σ today amount rate frm to rule rounding).1 = 0) ((kD_interest σ today amount rate frm to rule rounding).2.1) (dte G hd ha cnt today g rest (kD_interest σ today amount rate frm to rule rounding).2.2)) (kt_X D vwCl (gt G) (dte G hd ha cnt today g rest σ) sz (fun E => (kD_interest σ today amount rate frm to rule rounding).1 = ecd E)) 1 6 (va_A (dte G hd ha cnt today g rest σ) sz) := by
  refine vx_ofW (cc := cD_interest) (maxL := 7) (ret := (some .int)) (by decide) rfl ?_
  intro p e s m args below meth c s₁ B hml hnt hv
  have hx := B.exec
  have hb := B.bytes
  have hr := B.returns
  have hts := atoms_spec (ws := wgD_interest) B.pre
  have hg : ∀ w ∈ GW, w.before args s = true := fun w h => hts w (List.mem_cons_of_mem _ h)
  have hown : s.vm.findClass RD = some m.cls := findClass_of_methodNamed B.named
  have hlocks := B.notSynchronized
  obtain ⟨⟨hv, hsz, hP, hK, hD0⟩, hE⟩ := hv
  subst hsz
  have hD := hD0.self (sz := s.heap.size)
  have hS : va_S (va_A (dte G hd ha cnt today g rest σ) s.heap.size) s.heap s.heap [] := va_S.rf
  refine kw_entry [.ref hd, .int amount, .int rate, .int frm, .int to, .int rule, .int rounding] hv (Nat.le_of_ble_eq_true rfl) (fun ls hl => ?_)
  have hl : lv_has ls 7 [(0, .ref hd), (1, .int amount), (2, .int rate), (3, .int frm), (4, .int to), (5, .int rule), (6, .int rounding)] := hl
  refine lv_iload_n hx hb dD_interest_0 rfl (lv_at hl 1 rfl) ?_
  refine lv_iconst (v := 0) hx hb dD_interest_1 (by decide) ?_
  refine lv_ldc (v := 100000000) hx hb hown (hg _ gw_60) dD_interest_2 ?_
  refine kp_reti (va_runS (As := [.int amount, .int 0, .int 100000000]) (rest := []) ⟨hx, hb, hml, hown, hg⟩ (c_D_within l amount (0 : Int32) (100000000 : Int32)) ⟨kw_cB (n := 3) hg gw_63 gw_1 gw_61 (by decide +kernel) (by decide +kernel) ⟨Nat.le_of_ble_eq_true rfl, Nat.le_of_ble_eq_true rfl⟩ rfl rfl, hg _ gw_62⟩ kp_pre rfl rfl hl.1 rfl (lv_room (Nat.le_of_ble_eq_true rfl)) dD_interest_4 ⟨Nat.le_of_ble_eq_true rfl, Nat.le_of_ble_eq_true rfl⟩) ?_
  refine lv_topi (fun r_1 e_2 => ?_)
  replace e_2 := e_2.symm
  refine lv_if_eq (tgt := 64) hx hb dD_interest_7 (by decide) (fun h3 => ?_) (fun h3 => ?_)
  · skip
    have hk9 : kD_interest σ today amount rate frm to rule rounding = (1, 0, σ) := by subst e_2; unfold kD_interest; rw [if_pos h3]
    exact kt_throw hx hb hlt hg hown hE (by decide +kernel) gw_64 gw_6 kt_gA kt_bA kt_inA kt_oA hnt hK hP hD hS (hl.1.trans hml.symm) dD_interest_64 dD_interest_67 dD_interest_68 dD_interest_71 (Nat.le_of_ble_eq_true rfl) (Nat.le_of_ble_eq_true rfl) (Nat.le_of_ble_eq_true rfl) (Nat.le_of_ble_eq_true rfl) hlocks (Nat.le_of_ble_eq_true rfl) (Nat.le_of_ble_eq_true rfl) (by rw [hk9]; exact (show (1 : Int32) = ecd eA by decide +kernel))
  · skip
    refine lv_iload_n hx hb dD_interest_10 rfl (lv_at hl 2 rfl) ?_
    refine lv_iconst (v := 0) hx hb dD_interest_11 (by decide) ?_
    refine lv_sipush (v := 30000) hx hb dD_interest_12 (by decide) ?_
    refine kp_reti (va_runS (As := [.int rate, .int 0, .int 30000]) (rest := []) ⟨hx, hb, hml, hown, hg⟩ (c_D_within l rate (0 : Int32) (30000 : Int32)) ⟨kw_cB (n := 3) hg gw_63 gw_1 gw_61 (by decide +kernel) (by decide +kernel) ⟨Nat.le_of_ble_eq_true rfl, Nat.le_of_ble_eq_true rfl⟩ rfl rfl, hg _ gw_62⟩ kp_pre rfl rfl hl.1 rfl (lv_room (Nat.le_of_ble_eq_true rfl)) dD_interest_15 ⟨Nat.le_of_ble_eq_true rfl, Nat.le_of_ble_eq_true rfl⟩) ?_
    refine lv_topi (fun r_4 e_5 => ?_)
    replace e_5 := e_5.symm
    refine lv_if_eq (tgt := 64) hx hb dD_interest_18 (by decide) (fun h6 => ?_) (fun h6 => ?_)
    · skip
      have hk9 : kD_interest σ today amount rate frm to rule rounding = (1, 0, σ) := by subst e_2 e_5; unfold kD_interest; rw [if_neg h3, if_pos h6]
      exact kt_throw hx hb hlt hg hown hE (by decide +kernel) gw_64 gw_6 kt_gA kt_bA kt_inA kt_oA hnt hK hP hD hS (hl.1.trans hml.symm) dD_interest_64 dD_interest_67 dD_interest_68 dD_interest_71 (Nat.le_of_ble_eq_true rfl) (Nat.le_of_ble_eq_true rfl) (Nat.le_of_ble_eq_true rfl) (Nat.le_of_ble_eq_true rfl) hlocks (Nat.le_of_ble_eq_true rfl) (Nat.le_of_ble_eq_true rfl) (by rw [hk9]; exact (show (1 : Int32) = ecd eA by decide +kernel))
    · skip
      refine lv_iload_n hx hb dD_interest_21 rfl (lv_at hl 3 rfl) ?_
      refine lv_iconst (v := 0) hx hb dD_interest_22 (by decide) ?_
      refine lv_sipush (v := 4000) hx hb dD_interest_23 (by decide) ?_
      refine kp_reti (va_runS (As := [.int frm, .int 0, .int 4000]) (rest := []) ⟨hx, hb, hml, hown, hg⟩ (c_D_within l frm (0 : Int32) (4000 : Int32)) ⟨kw_cB (n := 3) hg gw_63 gw_1 gw_61 (by decide +kernel) (by decide +kernel) ⟨Nat.le_of_ble_eq_true rfl, Nat.le_of_ble_eq_true rfl⟩ rfl rfl, hg _ gw_62⟩ kp_pre rfl rfl hl.1 rfl (lv_room (Nat.le_of_ble_eq_true rfl)) dD_interest_26 ⟨Nat.le_of_ble_eq_true rfl, Nat.le_of_ble_eq_true rfl⟩) ?_
      refine lv_topi (fun r_7 e_8 => ?_)
      replace e_8 := e_8.symm
      refine lv_if_eq (tgt := 64) hx hb dD_interest_29 (by decide) (fun h9 => ?_) (fun h9 => ?_)
      · skip
        have hk9 : kD_interest σ today amount rate frm to rule rounding = (1, 0, σ) := by subst e_2 e_5 e_8; unfold kD_interest; rw [if_neg h3, if_neg h6, if_pos h9]
        exact kt_throw hx hb hlt hg hown hE (by decide +kernel) gw_64 gw_6 kt_gA kt_bA kt_inA kt_oA hnt hK hP hD hS (hl.1.trans hml.symm) dD_interest_64 dD_interest_67 dD_interest_68 dD_interest_71 (Nat.le_of_ble_eq_true rfl) (Nat.le_of_ble_eq_true rfl) (Nat.le_of_ble_eq_true rfl) (Nat.le_of_ble_eq_true rfl) hlocks (Nat.le_of_ble_eq_true rfl) (Nat.le_of_ble_eq_true rfl) (by rw [hk9]; exact (show (1 : Int32) = ecd eA by decide +kernel))
      · skip
        refine lv_iload hx hb dD_interest_32 (lv_at hl 4 rfl) ?_
        refine lv_iload_n hx hb dD_interest_34 rfl (lv_at hl 3 rfl) ?_
        refine lv_sipush (v := 4000) hx hb dD_interest_35 (by decide) ?_
        refine kp_reti (va_runS (As := [.int to, .int frm, .int 4000]) (rest := []) ⟨hx, hb, hml, hown, hg⟩ (c_D_within l to frm (4000 : Int32)) ⟨kw_cB (n := 3) hg gw_63 gw_1 gw_61 (by decide +kernel) (by decide +kernel) ⟨Nat.le_of_ble_eq_true rfl, Nat.le_of_ble_eq_true rfl⟩ rfl rfl, hg _ gw_62⟩ kp_pre rfl rfl hl.1 rfl (lv_room (Nat.le_of_ble_eq_true rfl)) dD_interest_38 ⟨Nat.le_of_ble_eq_true rfl, Nat.le_of_ble_eq_true rfl⟩) ?_
        refine lv_topi (fun r_10 e_11 => ?_)
        replace e_11 := e_11.symm
        refine lv_if_eq (tgt := 64) hx hb dD_interest_41 (by decide) (fun h12 => ?_) (fun h12 => ?_)
        · skip
          have hk9 : kD_interest σ today amount rate frm to rule rounding = (1, 0, σ) := by subst e_2 e_5 e_8 e_11; unfold kD_interest; rw [if_neg h3, if_neg h6, if_neg h9, if_pos h12]
          exact kt_throw hx hb hlt hg hown hE (by decide +kernel) gw_64 gw_6 kt_gA kt_bA kt_inA kt_oA hnt hK hP hD hS (hl.1.trans hml.symm) dD_interest_64 dD_interest_67 dD_interest_68 dD_interest_71 (Nat.le_of_ble_eq_true rfl) (Nat.le_of_ble_eq_true rfl) (Nat.le_of_ble_eq_true rfl) (Nat.le_of_ble_eq_true rfl) hlocks (Nat.le_of_ble_eq_true rfl) (Nat.le_of_ble_eq_true rfl) (by rw [hk9]; exact (show (1 : Int32) = ecd eA by decide +kernel))
        · skip
          refine lv_iload hx hb dD_interest_44 (lv_at hl 5 rfl) ?_
          refine lv_iconst (v := 0) hx hb dD_interest_46 (by decide) ?_
          refine lv_iconst (v := 3) hx hb dD_interest_47 (by decide) ?_
          refine kp_reti (va_runS (As := [.int rule, .int 0, .int 3]) (rest := []) ⟨hx, hb, hml, hown, hg⟩ (c_D_within l rule (0 : Int32) (3 : Int32)) ⟨kw_cB (n := 3) hg gw_63 gw_1 gw_61 (by decide +kernel) (by decide +kernel) ⟨Nat.le_of_ble_eq_true rfl, Nat.le_of_ble_eq_true rfl⟩ rfl rfl, hg _ gw_62⟩ kp_pre rfl rfl hl.1 rfl (lv_room (Nat.le_of_ble_eq_true rfl)) dD_interest_48 ⟨Nat.le_of_ble_eq_true rfl, Nat.le_of_ble_eq_true rfl⟩) ?_
          refine lv_topi (fun r_13 e_14 => ?_)
          replace e_14 := e_14.symm
          refine lv_if_eq (tgt := 64) hx hb dD_interest_51 (by decide) (fun h15 => ?_) (fun h15 => ?_)
          · skip
            have hk9 : kD_interest σ today amount rate frm to rule rounding = (1, 0, σ) := by subst e_2 e_5 e_8 e_11 e_14; unfold kD_interest; rw [if_neg h3, if_neg h6, if_neg h9, if_neg h12, if_pos h15]
            exact kt_throw hx hb hlt hg hown hE (by decide +kernel) gw_64 gw_6 kt_gA kt_bA kt_inA kt_oA hnt hK hP hD hS (hl.1.trans hml.symm) dD_interest_64 dD_interest_67 dD_interest_68 dD_interest_71 (Nat.le_of_ble_eq_true rfl) (Nat.le_of_ble_eq_true rfl) (Nat.le_of_ble_eq_true rfl) (Nat.le_of_ble_eq_true rfl) hlocks (Nat.le_of_ble_eq_true rfl) (Nat.le_of_ble_eq_true rfl) (by rw [hk9]; exact (show (1 : Int32) = ecd eA by decide +kernel))
          · skip
            refine lv_iload hx hb dD_interest_54 (lv_at hl 6 rfl) ?_
            refine lv_iconst (v := 0) hx hb dD_interest_56 (by decide) ?_
            refine lv_iconst (v := 3) hx hb dD_interest_57 (by decide) ?_
            refine kp_reti (va_runS (As := [.int rounding, .int 0, .int 3]) (rest := []) ⟨hx, hb, hml, hown, hg⟩ (c_D_within l rounding (0 : Int32) (3 : Int32)) ⟨kw_cB (n := 3) hg gw_63 gw_1 gw_61 (by decide +kernel) (by decide +kernel) ⟨Nat.le_of_ble_eq_true rfl, Nat.le_of_ble_eq_true rfl⟩ rfl rfl, hg _ gw_62⟩ kp_pre rfl rfl hl.1 rfl (lv_room (Nat.le_of_ble_eq_true rfl)) dD_interest_58 ⟨Nat.le_of_ble_eq_true rfl, Nat.le_of_ble_eq_true rfl⟩) ?_
            refine lv_topi (fun r_16 e_17 => ?_)
            replace e_17 := e_17.symm
            refine lv_if_ne (tgt := 72) hx hb dD_interest_61 (by decide) (fun h18 => ?_) (fun h18 => ?_)
            · skip
              refine lv_iload_n hx hb dD_interest_72 rfl (lv_at hl 1 rfl) ?_
              refine lv_iload_n hx hb dD_interest_73 rfl (lv_at hl 2 rfl) ?_
              refine lv_iload hx hb dD_interest_74 (lv_at hl 5 rfl) ?_
              refine lv_iload_n hx hb dD_interest_76 rfl (lv_at hl 3 rfl) ?_
              refine lv_iload hx hb dD_interest_77 (lv_at hl 4 rfl) ?_
              refine kp_reti (va_runS (As := [.int rule, .int frm, .int to]) (rest := [.int rate, .int amount]) ⟨hx, hb, hml, hown, hg⟩ (c_S_top l rule frm to) ⟨kw_cB (n := 3) hg gw_271 gw_14 gw_486 (by decide +kernel) (by decide +kernel) ⟨Nat.le_of_ble_eq_true rfl, Nat.le_of_ble_eq_true rfl⟩ rfl rfl, hg _ gw_270⟩ kp_pre rfl rfl hl.1 rfl (lv_room (Nat.le_of_ble_eq_true rfl)) dD_interest_79 ⟨Nat.le_of_ble_eq_true rfl, Nat.le_of_ble_eq_true rfl⟩) ?_
              refine lv_topi (fun r_19 e_20 => ?_)
              replace e_20 := e_20.symm
              refine lv_iload hx hb dD_interest_82 (lv_at hl 5 rfl) ?_
              refine lv_iload hx hb dD_interest_84 (lv_at hl 6 rfl) ?_
              refine kp_reti (va_runS (As := [.int amount, .int rate, .int r_19, .int rule, .int rounding]) (rest := []) ⟨hx, hb, hml, hown, hg⟩ (c_C_interestOn l amount rate r_19 rule rounding) ⟨kw_cB (n := 5) hg gw_284 gw_15 gw_487 (by decide +kernel) (by decide +kernel) ⟨Nat.le_of_ble_eq_true rfl, Nat.le_of_ble_eq_true rfl⟩ rfl rfl, hg _ gw_283⟩ kp_pre rfl rfl hl.1 rfl (lv_room (Nat.le_of_ble_eq_true rfl)) dD_interest_86 ⟨Nat.le_of_ble_eq_true rfl, Nat.le_of_ble_eq_true rfl⟩) ?_
              refine lv_topi (fun r_21 e_22 => ?_)
              replace e_22 := e_22.symm
              have hk9 : kD_interest σ today amount rate frm to rule rounding = (0, r_21, σ) := by subst e_2 e_5 e_8 e_11 e_14 e_17 e_20 e_22; unfold kD_interest; rw [if_neg h3, if_neg h6, if_neg h9, if_neg h12, if_neg h15, if_neg h18]
              refine W.widen (k := 1) (n := 6) (by decide) (by decide) ?_
              exact kt_iret hx hb hr hlocks hK hP hD hS (kt_fin (f := dte G hd ha cnt today g rest) (S := σ) rfl hk9) dD_interest_89
            · skip
              have hk9 : kD_interest σ today amount rate frm to rule rounding = (1, 0, σ) := by subst e_2 e_5 e_8 e_11 e_14 e_17; unfold kD_interest; rw [if_neg h3, if_neg h6, if_neg h9, if_neg h12, if_neg h15, if_pos h18]
              exact kt_throw hx hb hlt hg hown hE (by decide +kernel) gw_64 gw_6 kt_gA kt_bA kt_inA kt_oA hnt hK hP hD hS (hl.1.trans hml.symm) dD_interest_64 dD_interest_67 dD_interest_68 dD_interest_71 (Nat.le_of_ble_eq_true rfl) (Nat.le_of_ble_eq_true rfl) (Nat.le_of_ble_eq_true rfl) (Nat.le_of_ble_eq_true rfl) hlocks (Nat.le_of_ble_eq_true rfl) (Nat.le_of_ble_eq_true rfl) (by rw [hk9]; exact (show (1 : Int32) = ecd eA by decide +kernel))
