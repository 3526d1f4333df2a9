/-! the law's wrappers: contracts -/
abbrev wgL_open : List Cond := .codeWith yL_open cL_open 9 (some .int) [(0, 18, 21, 13), (0, 18, 25, 15)] :: GW
set_option maxRecDepth 100000 in
set_option maxHeartbeats 4000000 in
theorem c_L_open (l : Launch) (D : va_G) (G : Nat → ClassId) (hd ho : Nat) (f : Nat → Int64) (x1 x2 x3 x4 x5 x6 : Int32) (wd : va_W) (q0 : Nat) (fs : List Value) (hq : wd[q0]? = some (hd, .inr (0, fs))) (rm : Room) (mc ms : Nat) (hrc : rm.cells = mc) (hrs : rm.slots = ms) (hrf : rm.frames ≤ 7) (hrl : rm.locals ≤ 152) (U : Type) (po : Int32 → U → Prop) (wf : U → va_W) (fx : String → Prop) (hfx : ∀ E, fx E → E = eA ∨ E = eS) (hM : ∀ sz, vx_Met l yD_open wgD_open rm (kt_Pc D vwCl (gt G) [.ref hd, .int x1, .int x2, .int x3, .int x4, .int x5, .int x6] wd sz) (va_Qi po (fun u t => kw_B D vwCl (gt G) (wf u) (va_A wd sz) t) (va_A wd sz)) (kt_X D vwCl (gt G) wd sz fx) mc ms (va_A wd sz)) (sz : Nat) : Met l yL_open wgL_open { frames := 8, cells := mc, slots := ms, locals := 190 } (kl_Pc D vwCl (gt G) [.ref hd, .int x1, .int x2, .int x3, .int x4, .int x5, .int x6, .ref ho] (ocl G ho f ++ wd) sz) (va_Qi (kl_po fx po cd_A) (fun z t => kw_B D vwCl (gt G) (kl_w G ho f wd wf z) (va_A (ocl G ho f ++ wd) sz) t) (va_A (ocl G ho f ++ wd) sz)) mc ms (va_A (ocl G ho f ++ wd) sz) := by
  refine vx_toMet (vx_ofWH (cc := cL_open) (maxL := 9) (ret := some .int) (hh := [(0, 18, 21, 13), (0, 18, 25, 15)]) (by decide) rfl ?_)
  intro p e s m args below meth c s₁ B hml hv
  have hx := B.exec
  have hb := B.bytes
  have hr := B.returns
  have hts := atoms_spec (ws := wgL_open) B.pre
  have hg : ∀ w ∈ GW, w.before args s = true := fun w h => hts w (List.mem_cons_of_mem _ h)
  have hown : s.vm.findClass RL = some m.cls := findClass_of_methodNamed B.named
  have hlocks := B.notSynchronized
  have hT := vx_table (x := yL_open) B (hg _ gw_53)
  obtain ⟨⟨⟨hv, hsz, hP, hK, hD0⟩, hE⟩, hN⟩ := hv
  subst hsz
  have hD := hD0.self (sz := s.heap.size)
  have hS : va_S (va_A (ocl G ho f ++ wd) s.heap.size) s.heap s.heap [] := va_S.rf
  refine kw_entry [.ref hd, .int x1, .int x2, .int x3, .int x4, .int x5, .int x6, .ref ho] hv (Nat.le_of_ble_eq_true rfl) (fun ls hl => ?_)
  have hl : lv_has ls 9 [(0, .ref hd), (1, .int x1), (2, .int x2), (3, .int x3), (4, .int x4), (5, .int x5), (6, .int x6), (7, .ref ho)] := hl
  refine lv_aload hx hb dL_open_0 (lv_at hl 7 rfl) ?_
  refine lv_iconst (v := 0) hx hb dL_open_2 (by decide) ?_
  refine lv_aload_n hx hb dL_open_3 rfl (lv_at hl 0 rfl) ?_
  refine lv_iload_n hx hb dL_open_4 rfl (lv_at hl 1 rfl) ?_
  refine lv_iload_n hx hb dL_open_5 rfl (lv_at hl 2 rfl) ?_
  refine lv_iload_n hx hb dL_open_6 rfl (lv_at hl 3 rfl) ?_
  refine lv_iload hx hb dL_open_7 (lv_at hl 4 rfl) ?_
  refine lv_iload hx hb dL_open_9 (lv_at hl 5 rfl) ?_
  refine lv_iload hx hb dL_open_11 (lv_at hl 6 rfl) ?_
  have hp0 : (wd ++ ocl G ho f).Perm (ocl G ho f ++ wd) := List.perm_append_comm
  have hP0 := kw_Pp hP hp0
  have hD1 := kw_Dp hD hp0
  refine kt_reti (wc := wd) (wr := (ocl G ho f)) (vx_runV (C := RD) (As := [.int x1, .int x2, .int x3, .int x4, .int x5, .int x6]) (rest := [.int 0, .ref ho]) ⟨hx, hb, hml, hown, hg⟩ (hM _) ⟨kw_cB (n := 6) hg gw_59 gw_1 gw_56 (by decide +kernel) (by decide +kernel) ⟨(by show rm.frames + 1 ≤ 8; omega), (by show 8 + (9 + 11) + rm.locals ≤ 190; omega)⟩ hrc hrs, hg _ gw_57, hg _ gw_58⟩ (kl_preV (q0 := q0) hK (kw_Pl hP0) (kw_Dl hD1) hE hS (kw_free hD1 hS (fun _ h => Or.inr h)) rfl hq) rfl rfl hl.1 rfl (lv_room (Nat.le_of_ble_eq_true rfl)) dL_open_13 ⟨(by show 0 + mc ≤ mc; omega), (by show 0 + ms ≤ ms; omega)⟩) hP0 hD1 hS (fun _ h => Or.inr h) (fun E ce q9 H locs hf hP hD hS h1 h2 h3 => ?_) (fun r u H locs hpo hP hD hS => ?_)
  · rcases hfx E hf with rfl | rfl
    · refine vx_catch (own := RL) (name := eA) hown [] ⟨0, 18, 21, 13⟩ [⟨0, 18, 25, 15⟩] hT (fun z hz => nomatch hz) rfl (by decide) (hg _ gw_54) (kl_castA hE) h1 h2 h3 ?_
      refine lv_astore hx hb dL_open_21 hl (by decide) rfl (fun ls hl => ?_)
      refine lv_iconst (v := 1) hx hb dL_open_23 (by decide) ?_
      refine W.widen (k := mc) (n := ms) (by omega) (by omega) ?_
      exact kl_iret (none : Option (Int32 × U)) hx hb hr hlocks hK (kw_Pp hP hp0.symm) (kw_Dp hD hp0.symm) hS ⟨eA, hf, by decide +kernel⟩ rfl dL_open_24
    · refine vx_catch (own := RL) (name := eS) hown [⟨0, 18, 21, 13⟩] ⟨0, 18, 25, 15⟩ [] hT (fun z hz => (by cases List.mem_singleton.1 hz; exact Or.inr ⟨by decide, eA, hg _ gw_54, hN.2.1⟩)) rfl (by decide) (hg _ gw_55) (kl_castS hE) h1 h2 h3 ?_
      refine lv_astore hx hb dL_open_25 hl (by decide) rfl (fun ls hl => ?_)
      refine lv_iconst (v := 2) hx hb dL_open_27 (by decide) ?_
      refine W.widen (k := mc) (n := ms) (by omega) (by omega) ?_
      exact kl_iret (none : Option (Int32 × U)) hx hb hr hlocks hK (kw_Pp hP hp0.symm) (kw_Dp hD hp0.symm) hS ⟨eS, hf, by decide +kernel⟩ rfl dL_open_28
  · refine lv_i2l hx hb dL_open_16 rfl ?_
    have hp1 : (ocl G ho f ++ wf u).Perm (wf u ++ ocl G ho f) := List.perm_append_comm
    refine va_last hx hb hK (kw_Pp hP hp1) (kw_Dp hD hp1) hS 0 2 rfl rfl (vp_in_nI (n := 0) (by decide) (by decide)) dL_open_17 (fun H locs hP hD hS => ?_)
    refine lv_goto (tgt := 29) hx hb dL_open_18 (by decide) ?_
    refine lv_iconst (v := 0) hx hb dL_open_29 (by decide) ?_
    refine W.widen (k := mc) (n := ms) (by omega) (by omega) ?_
    exact kl_iret (some (r, u) : Option (Int32 × U)) hx hb hr hlocks hK hP hD hS ⟨rfl, hpo⟩ rfl dL_open_30
abbrev wgL_charge : List Cond := .codeWith yL_charge cL_charge 4 (some .int) [(0, 6, 9, 21), (0, 6, 12, 13)] :: GW
set_option maxRecDepth 100000 in
set_option maxHeartbeats 4000000 in
theorem c_L_charge (l : Launch) (D : va_G) (G : Nat → ClassId) (hd : Nat) (x1 x2 : Int32) (wd : va_W) (q0 : Nat) (fs : List Value) (hq : wd[q0]? = some (hd, .inr (0, fs))) (rm : Room) (mc ms : Nat) (hrc : rm.cells = mc) (hrs : rm.slots = ms) (hrf : rm.frames ≤ 7) (hrl : rm.locals ≤ 152) (U : Type) (po : U → Prop) (wf : U → va_W) (fx : String → Prop) (hfx : ∀ E, fx E → E = eI ∨ E = eA) (hM : ∀ sz, vx_Met l yD_charge wgD_charge rm (kt_Pc D vwCl (gt G) [.ref hd, .int x1, .int x2] wd sz) (va_Qv po (fun u t => kw_B D vwCl (gt G) (wf u) (va_A wd sz) t) (va_A wd sz)) (kt_X D vwCl (gt G) wd sz fx) mc ms (va_A wd sz)) (sz : Nat) : Met l yL_charge wgL_charge { frames := 8, cells := mc, slots := ms, locals := 190 } (kl_Pc D vwCl (gt G) [.ref hd, .int x1, .int x2] wd sz) (va_Qi (kl_pov fx po cd_I) (fun z t => kw_B D vwCl (gt G) (kl_wv wd wf z) (va_A wd sz) t) (va_A wd sz)) mc ms (va_A wd sz) := by
  refine vx_toMet (vx_ofWH (cc := cL_charge) (maxL := 4) (ret := some .int) (hh := [(0, 6, 9, 21), (0, 6, 12, 13)]) (by decide) rfl ?_)
  intro p e s m args below meth c s₁ B hml hv
  have hx := B.exec
  have hb := B.bytes
  have hr := B.returns
  have hts := atoms_spec (ws := wgL_charge) B.pre
  have hg : ∀ w ∈ GW, w.before args s = true := fun w h => hts w (List.mem_cons_of_mem _ h)
  have hown : s.vm.findClass RL = some m.cls := findClass_of_methodNamed B.named
  have hlocks := B.notSynchronized
  have hT := vx_table (x := yL_charge) B (hg _ gw_300)
  obtain ⟨⟨⟨hv, hsz, hP, hK, hD0⟩, hE⟩, hN⟩ := hv
  subst hsz
  have hD := hD0.self (sz := s.heap.size)
  have hS : va_S (va_A wd s.heap.size) s.heap s.heap [] := va_S.rf
  refine kw_entry [.ref hd, .int x1, .int x2] hv (Nat.le_of_ble_eq_true rfl) (fun ls hl => ?_)
  have hl : lv_has ls 4 [(0, .ref hd), (1, .int x1), (2, .int x2)] := hl
  refine lv_aload_n hx hb dL_charge_0 rfl (lv_at hl 0 rfl) ?_
  refine lv_iload_n hx hb dL_charge_1 rfl (lv_at hl 1 rfl) ?_
  refine lv_iload_n hx hb dL_charge_2 rfl (lv_at hl 2 rfl) ?_
  have hP0 : va_P D vwCl (wd ++ []) s.heap := by rw [List.append_nil]; exact hP
  have hD1 : va_D (va_A wd s.heap.size) (wd ++ []) := by rw [List.append_nil]; exact hD
  refine kt_retv (wc := wd) (wr := []) (vx_runV (C := RD) (As := [.int x1, .int x2]) (rest := []) ⟨hx, hb, hml, hown, hg⟩ (hM _) ⟨kw_cB (n := 2) hg gw_305 gw_1 gw_302 (by decide +kernel) (by decide +kernel) ⟨(by show rm.frames + 1 ≤ 8; omega), (by show 8 + (4 + 11) + rm.locals ≤ 190; omega)⟩ hrc hrs, hg _ gw_303, hg _ gw_304⟩ (kl_preV (q0 := q0) hK (kw_Pl hP0) (kw_Dl hD1) hE hS (kw_free hD1 hS (fun _ h => Or.inr h)) rfl hq) rfl rfl hl.1 rfl (lv_room (Nat.le_of_ble_eq_true rfl)) dL_charge_3 ⟨(by show 0 + mc ≤ mc; omega), (by show 0 + ms ≤ ms; omega)⟩) hP0 hD1 hS (fun _ h => Or.inr h) (fun E ce q9 H locs hf hP hD hS h1 h2 h3 => ?_) (fun u H locs hpo hP hD hS => ?_)
  · rcases hfx E hf with rfl | rfl
    · refine vx_catch (own := RL) (name := eI) hown [] ⟨0, 6, 9, 21⟩ [⟨0, 6, 12, 13⟩] hT (fun z hz => nomatch hz) rfl (by decide) (hg _ gw_301) (kl_castI hE) h1 h2 h3 ?_
      refine lv_astore_n hx hb dL_charge_9 rfl hl (by decide) rfl (fun ls hl => ?_)
      refine lv_iconst (v := 1) hx hb dL_charge_10 (by decide) ?_
      refine W.widen (k := mc) (n := ms) (by omega) (by omega) ?_
      rw [List.append_nil] at hP hD
      exact kl_iret (none : Option U) hx hb hr hlocks hK hP hD hS ⟨eI, hf, by decide +kernel⟩ rfl dL_charge_11
    · refine vx_catch (own := RL) (name := eA) hown [⟨0, 6, 9, 21⟩] ⟨0, 6, 12, 13⟩ [] hT (fun z hz => (by cases List.mem_singleton.1 hz; exact Or.inr ⟨by decide, eI, hg _ gw_301, hN.1⟩)) rfl (by decide) (hg _ gw_54) (kl_castA hE) h1 h2 h3 ?_
      refine lv_astore_n hx hb dL_charge_12 rfl hl (by decide) rfl (fun ls hl => ?_)
      refine lv_iconst (v := 2) hx hb dL_charge_13 (by decide) ?_
      refine W.widen (k := mc) (n := ms) (by omega) (by omega) ?_
      rw [List.append_nil] at hP hD
      exact kl_iret (none : Option U) hx hb hr hlocks hK hP hD hS ⟨eA, hf, by decide +kernel⟩ rfl dL_charge_14
  · refine lv_goto (tgt := 15) hx hb dL_charge_6 (by decide) ?_
    refine lv_iconst (v := 0) hx hb dL_charge_15 (by decide) ?_
    refine W.widen (k := mc) (n := ms) (by omega) (by omega) ?_
    rw [List.append_nil] at hP hD
    exact kl_iret (some u : Option U) hx hb hr hlocks hK hP hD hS ⟨rfl, hpo⟩ rfl dL_charge_16
abbrev wgL_advance : List Cond := .codeWith yL_advance cL_advance 4 (some .int) [(0, 9, 12, 13), (0, 9, 15, 15)] :: GW
set_option maxRecDepth 100000 in
set_option maxHeartbeats 4000000 in
theorem c_L_advance (l : Launch) (D : va_G) (G : Nat → ClassId) (hd ho : Nat) (f : Nat → Int64) (x1 : Int32) (wd : va_W) (q0 : Nat) (fs : List Value) (hq : wd[q0]? = some (hd, .inr (0, fs))) (rm : Room) (mc ms : Nat) (hrc : rm.cells = mc) (hrs : rm.slots = ms) (hrf : rm.frames ≤ 7) (hrl : rm.locals ≤ 152) (U : Type) (po : Int32 → U → Prop) (wf : U → va_W) (fx : String → Prop) (hfx : ∀ E, fx E → E = eA ∨ E = eS) (hM : ∀ sz, vx_Met l yD_advance wgD_advance rm (kt_Pc D vwCl (gt G) [.ref hd, .int x1] wd sz) (va_Qi po (fun u t => kw_B D vwCl (gt G) (wf u) (va_A wd sz) t) (va_A wd sz)) (kt_X D vwCl (gt G) wd sz fx) mc ms (va_A wd sz)) (sz : Nat) : Met l yL_advance wgL_advance { frames := 8, cells := mc, slots := ms, locals := 190 } (kl_Pc D vwCl (gt G) [.ref hd, .int x1, .ref ho] (ocl G ho f ++ wd) sz) (va_Qi (kl_po fx po cd_A) (fun z t => kw_B D vwCl (gt G) (kl_w G ho f wd wf z) (va_A (ocl G ho f ++ wd) sz) t) (va_A (ocl G ho f ++ wd) sz)) mc ms (va_A (ocl G ho f ++ wd) sz) := by
  refine vx_toMet (vx_ofWH (cc := cL_advance) (maxL := 4) (ret := some .int) (hh := [(0, 9, 12, 13), (0, 9, 15, 15)]) (by decide) rfl ?_)
  intro p e s m args below meth c s₁ B hml hv
  have hx := B.exec
  have hb := B.bytes
  have hr := B.returns
  have hts := atoms_spec (ws := wgL_advance) B.pre
  have hg : ∀ w ∈ GW, w.before args s = true := fun w h => hts w (List.mem_cons_of_mem _ h)
  have hown : s.vm.findClass RL = some m.cls := findClass_of_methodNamed B.named
  have hlocks := B.notSynchronized
  have hT := vx_table (x := yL_advance) B (hg _ gw_333)
  obtain ⟨⟨⟨hv, hsz, hP, hK, hD0⟩, hE⟩, hN⟩ := hv
  subst hsz
  have hD := hD0.self (sz := s.heap.size)
  have hS : va_S (va_A (ocl G ho f ++ wd) s.heap.size) s.heap s.heap [] := va_S.rf
  refine kw_entry [.ref hd, .int x1, .ref ho] hv (Nat.le_of_ble_eq_true rfl) (fun ls hl => ?_)
  have hl : lv_has ls 4 [(0, .ref hd), (1, .int x1), (2, .ref ho)] := hl
  refine lv_aload_n hx hb dL_advance_0 rfl (lv_at hl 2 rfl) ?_
  refine lv_iconst (v := 0) hx hb dL_advance_1 (by decide) ?_
  refine lv_aload_n hx hb dL_advance_2 rfl (lv_at hl 0 rfl) ?_
  refine lv_iload_n hx hb dL_advance_3 rfl (lv_at hl 1 rfl) ?_
  have hp0 : (wd ++ ocl G ho f).Perm (ocl G ho f ++ wd) := List.perm_append_comm
  have hP0 := kw_Pp hP hp0
  have hD1 := kw_Dp hD hp0
  refine kt_reti (wc := wd) (wr := (ocl G ho f)) (vx_runV (C := RD) (As := [.int x1]) (rest := [.int 0, .ref ho]) ⟨hx, hb, hml, hown, hg⟩ (hM _) ⟨kw_cB (n := 1) hg gw_337 gw_1 gw_334 (by decide +kernel) (by decide +kernel) ⟨(by show rm.frames + 1 ≤ 8; omega), (by show 8 + (5 + 11) + rm.locals ≤ 190; omega)⟩ hrc hrs, hg _ gw_335, hg _ gw_336⟩ (kl_preV (q0 := q0) hK (kw_Pl hP0) (kw_Dl hD1) hE hS (kw_free hD1 hS (fun _ h => Or.inr h)) rfl hq) rfl rfl hl.1 rfl (lv_room (Nat.le_of_ble_eq_true rfl)) dL_advance_4 ⟨(by show 0 + mc ≤ mc; omega), (by show 0 + ms ≤ ms; omega)⟩) hP0 hD1 hS (fun _ h => Or.inr h) (fun E ce q9 H locs hf hP hD hS h1 h2 h3 => ?_) (fun r u H locs hpo hP hD hS => ?_)
  · rcases hfx E hf with rfl | rfl
    · refine vx_catch (own := RL) (name := eA) hown [] ⟨0, 9, 12, 13⟩ [⟨0, 9, 15, 15⟩] hT (fun z hz => nomatch hz) rfl (by decide) (hg _ gw_54) (kl_castA hE) h1 h2 h3 ?_
      refine lv_astore_n hx hb dL_advance_12 rfl hl (by decide) rfl (fun ls hl => ?_)
      refine lv_iconst (v := 1) hx hb dL_advance_13 (by decide) ?_
      refine W.widen (k := mc) (n := ms) (by omega) (by omega) ?_
      exact kl_iret (none : Option (Int32 × U)) hx hb hr hlocks hK (kw_Pp hP hp0.symm) (kw_Dp hD hp0.symm) hS ⟨eA, hf, by decide +kernel⟩ rfl dL_advance_14
    · refine vx_catch (own := RL) (name := eS) hown [⟨0, 9, 12, 13⟩] ⟨0, 9, 15, 15⟩ [] hT (fun z hz => (by cases List.mem_singleton.1 hz; exact Or.inr ⟨by decide, eA, hg _ gw_54, hN.2.1⟩)) rfl (by decide) (hg _ gw_55) (kl_castS hE) h1 h2 h3 ?_
      refine lv_astore_n hx hb dL_advance_15 rfl hl (by decide) rfl (fun ls hl => ?_)
      refine lv_iconst (v := 2) hx hb dL_advance_16 (by decide) ?_
      refine W.widen (k := mc) (n := ms) (by omega) (by omega) ?_
      exact kl_iret (none : Option (Int32 × U)) hx hb hr hlocks hK (kw_Pp hP hp0.symm) (kw_Dp hD hp0.symm) hS ⟨eS, hf, by decide +kernel⟩ rfl dL_advance_17
  · refine lv_i2l hx hb dL_advance_7 rfl ?_
    have hp1 : (ocl G ho f ++ wf u).Perm (wf u ++ ocl G ho f) := List.perm_append_comm
    refine va_last hx hb hK (kw_Pp hP hp1) (kw_Dp hD hp1) hS 0 2 rfl rfl (vp_in_nI (n := 0) (by decide) (by decide)) dL_advance_8 (fun H locs hP hD hS => ?_)
    refine lv_goto (tgt := 18) hx hb dL_advance_9 (by decide) ?_
    refine lv_iconst (v := 0) hx hb dL_advance_18 (by decide) ?_
    refine W.widen (k := mc) (n := ms) (by omega) (by omega) ?_
    exact kl_iret (some (r, u) : Option (Int32 × U)) hx hb hr hlocks hK hP hD hS ⟨rfl, hpo⟩ rfl dL_advance_19
abbrev wgL_pay : List Cond := .codeWith yL_pay cL_pay 5 (some .int) [(0, 10, 13, 21), (0, 10, 17, 13)] :: GW
set_option maxRecDepth 100000 in
set_option maxHeartbeats 4000000 in
theorem c_L_pay (l : Launch) (D : va_G) (G : Nat → ClassId) (hd ho : Nat) (f : Nat → Int64) (x1 x2 : Int32) (wd : va_W) (q0 : Nat) (fs : List Value) (hq : wd[q0]? = some (hd, .inr (0, fs))) (rm : Room) (mc ms : Nat) (hrc : rm.cells = mc) (hrs : rm.slots = ms) (hrf : rm.frames ≤ 7) (hrl : rm.locals ≤ 152) (U : Type) (po : Int32 → U → Prop) (wf : U → va_W) (fx : String → Prop) (hfx : ∀ E, fx E → E = eI ∨ E = eA) (hM : ∀ sz, vx_Met l yD_pay wgD_pay rm (kt_Pc D vwCl (gt G) [.ref hd, .int x1, .int x2] wd sz) (va_Qi po (fun u t => kw_B D vwCl (gt G) (wf u) (va_A wd sz) t) (va_A wd sz)) (kt_X D vwCl (gt G) wd sz fx) mc ms (va_A wd sz)) (sz : Nat) : Met l yL_pay wgL_pay { frames := 8, cells := mc, slots := ms, locals := 190 } (kl_Pc D vwCl (gt G) [.ref hd, .int x1, .int x2, .ref ho] (ocl G ho f ++ wd) sz) (va_Qi (kl_po fx po cd_I) (fun z t => kw_B D vwCl (gt G) (kl_w G ho f wd wf z) (va_A (ocl G ho f ++ wd) sz) t) (va_A (ocl G ho f ++ wd) sz)) mc ms (va_A (ocl G ho f ++ wd) sz) := by
  refine vx_toMet (vx_ofWH (cc := cL_pay) (maxL := 5) (ret := some .int) (hh := [(0, 10, 13, 21), (0, 10, 17, 13)]) (by decide) rfl ?_)
  intro p e s m args below meth c s₁ B hml hv
  have hx := B.exec
  have hb := B.bytes
  have hr := B.returns
  have hts := atoms_spec (ws := wgL_pay) B.pre
  have hg : ∀ w ∈ GW, w.before args s = true := fun w h => hts w (List.mem_cons_of_mem _ h)
  have hown : s.vm.findClass RL = some m.cls := findClass_of_methodNamed B.named
  have hlocks := B.notSynchronized
  have hT := vx_table (x := yL_pay) B (hg _ gw_378)
  obtain ⟨⟨⟨hv, hsz, hP, hK, hD0⟩, hE⟩, hN⟩ := hv
  subst hsz
  have hD := hD0.self (sz := s.heap.size)
  have hS : va_S (va_A (ocl G ho f ++ wd) s.heap.size) s.heap s.heap [] := va_S.rf
  refine kw_entry [.ref hd, .int x1, .int x2, .ref ho] hv (Nat.le_of_ble_eq_true rfl) (fun ls hl => ?_)
  have hl : lv_has ls 5 [(0, .ref hd), (1, .int x1), (2, .int x2), (3, .ref ho)] := hl
  refine lv_aload_n hx hb dL_pay_0 rfl (lv_at hl 3 rfl) ?_
  refine lv_iconst (v := 0) hx hb dL_pay_1 (by decide) ?_
  refine lv_aload_n hx hb dL_pay_2 rfl (lv_at hl 0 rfl) ?_
  refine lv_iload_n hx hb dL_pay_3 rfl (lv_at hl 1 rfl) ?_
  refine lv_iload_n hx hb dL_pay_4 rfl (lv_at hl 2 rfl) ?_
  have hp0 : (wd ++ ocl G ho f).Perm (ocl G ho f ++ wd) := List.perm_append_comm
  have hP0 := kw_Pp hP hp0
  have hD1 := kw_Dp hD hp0
  refine kt_reti (wc := wd) (wr := (ocl G ho f)) (vx_runV (C := RD) (As := [.int x1, .int x2]) (rest := [.int 0, .ref ho]) ⟨hx, hb, hml, hown, hg⟩ (hM _) ⟨kw_cB (n := 2) hg gw_382 gw_1 gw_379 (by decide +kernel) (by decide +kernel) ⟨(by show rm.frames + 1 ≤ 8; omega), (by show 8 + (4 + 11) + rm.locals ≤ 190; omega)⟩ hrc hrs, hg _ gw_380, hg _ gw_381⟩ (kl_preV (q0 := q0) hK (kw_Pl hP0) (kw_Dl hD1) hE hS (kw_free hD1 hS (fun _ h => Or.inr h)) rfl hq) rfl rfl hl.1 rfl (lv_room (Nat.le_of_ble_eq_true rfl)) dL_pay_5 ⟨(by show 0 + mc ≤ mc; omega), (by show 0 + ms ≤ ms; omega)⟩) hP0 hD1 hS (fun _ h => Or.inr h) (fun E ce q9 H locs hf hP hD hS h1 h2 h3 => ?_) (fun r u H locs hpo hP hD hS => ?_)
  · rcases hfx E hf with rfl | rfl
    · refine vx_catch (own := RL) (name := eI) hown [] ⟨0, 10, 13, 21⟩ [⟨0, 10, 17, 13⟩] hT (fun z hz => nomatch hz) rfl (by decide) (hg _ gw_301) (kl_castI hE) h1 h2 h3 ?_
      refine lv_astore hx hb dL_pay_13 hl (by decide) rfl (fun ls hl => ?_)
      refine lv_iconst (v := 1) hx hb dL_pay_15 (by decide) ?_
      refine W.widen (k := mc) (n := ms) (by omega) (by omega) ?_
      exact kl_iret (none : Option (Int32 × U)) hx hb hr hlocks hK (kw_Pp hP hp0.symm) (kw_Dp hD hp0.symm) hS ⟨eI, hf, by decide +kernel⟩ rfl dL_pay_16
    · refine vx_catch (own := RL) (name := eA) hown [⟨0, 10, 13, 21⟩] ⟨0, 10, 17, 13⟩ [] hT (fun z hz => (by cases List.mem_singleton.1 hz; exact Or.inr ⟨by decide, eI, hg _ gw_301, hN.1⟩)) rfl (by decide) (hg _ gw_54) (kl_castA hE) h1 h2 h3 ?_
      refine lv_astore hx hb dL_pay_17 hl (by decide) rfl (fun ls hl => ?_)
      refine lv_iconst (v := 2) hx hb dL_pay_19 (by decide) ?_
      refine W.widen (k := mc) (n := ms) (by omega) (by omega) ?_
      exact kl_iret (none : Option (Int32 × U)) hx hb hr hlocks hK (kw_Pp hP hp0.symm) (kw_Dp hD hp0.symm) hS ⟨eA, hf, by decide +kernel⟩ rfl dL_pay_20
  · refine lv_i2l hx hb dL_pay_8 rfl ?_
    have hp1 : (ocl G ho f ++ wf u).Perm (wf u ++ ocl G ho f) := List.perm_append_comm
    refine va_last hx hb hK (kw_Pp hP hp1) (kw_Dp hD hp1) hS 0 2 rfl rfl (vp_in_nI (n := 0) (by decide) (by decide)) dL_pay_9 (fun H locs hP hD hS => ?_)
    refine lv_goto (tgt := 21) hx hb dL_pay_10 (by decide) ?_
    refine lv_iconst (v := 0) hx hb dL_pay_21 (by decide) ?_
    refine W.widen (k := mc) (n := ms) (by omega) (by omega) ?_
    exact kl_iret (some (r, u) : Option (Int32 × U)) hx hb hr hlocks hK hP hD hS ⟨rfl, hpo⟩ rfl dL_pay_22
abbrev wgL_part : List Cond := .codeWith yL_part cL_part 5 (some .int) [(0, 10, 13, 21), (0, 10, 17, 13), (0, 10, 21, 15)] :: GW
set_option maxRecDepth 100000 in
set_option maxHeartbeats 4000000 in
theorem c_L_part (l : Launch) (D : va_G) (G : Nat → ClassId) (hd ho : Nat) (f : Nat → Int64) (x1 x2 : Int32) (wd : va_W) (q0 : Nat) (fs : List Value) (hq : wd[q0]? = some (hd, .inr (0, fs))) (rm : Room) (mc ms : Nat) (hrc : rm.cells = mc) (hrs : rm.slots = ms) (hrf : rm.frames ≤ 7) (hrl : rm.locals ≤ 152) (U : Type) (po : Int32 → U → Prop) (wf : U → va_W) (fx : String → Prop) (hfx : ∀ E, fx E → E = eI ∨ E = eA ∨ E = eS) (hM : ∀ sz, vx_Met l yD_part wgD_part rm (kt_Pc D vwCl (gt G) [.ref hd, .int x1, .int x2] wd sz) (va_Qi po (fun u t => kw_B D vwCl (gt G) (wf u) (va_A wd sz) t) (va_A wd sz)) (kt_X D vwCl (gt G) wd sz fx) mc ms (va_A wd sz)) (sz : Nat) : Met l yL_part wgL_part { frames := 8, cells := mc, slots := ms, locals := 190 } (kl_Pc D vwCl (gt G) [.ref hd, .int x1, .int x2, .ref ho] (ocl G ho f ++ wd) sz) (va_Qi (kl_po fx po cd_I) (fun z t => kw_B D vwCl (gt G) (kl_w G ho f wd wf z) (va_A (ocl G ho f ++ wd) sz) t) (va_A (ocl G ho f ++ wd) sz)) mc ms (va_A (ocl G ho f ++ wd) sz) := by
  refine vx_toMet (vx_ofWH (cc := cL_part) (maxL := 5) (ret := some .int) (hh := [(0, 10, 13, 21), (0, 10, 17, 13), (0, 10, 21, 15)]) (by decide) rfl ?_)
  intro p e s m args below meth c s₁ B hml hv
  have hx := B.exec
  have hb := B.bytes
  have hr := B.returns
  have hts := atoms_spec (ws := wgL_part) B.pre
  have hg : ∀ w ∈ GW, w.before args s = true := fun w h => hts w (List.mem_cons_of_mem _ h)
  have hown : s.vm.findClass RL = some m.cls := findClass_of_methodNamed B.named
  have hlocks := B.notSynchronized
  have hT := vx_table (x := yL_part) B (hg _ gw_394)
  obtain ⟨⟨⟨hv, hsz, hP, hK, hD0⟩, hE⟩, hN⟩ := hv
  subst hsz
  have hD := hD0.self (sz := s.heap.size)
  have hS : va_S (va_A (ocl G ho f ++ wd) s.heap.size) s.heap s.heap [] := va_S.rf
  refine kw_entry [.ref hd, .int x1, .int x2, .ref ho] hv (Nat.le_of_ble_eq_true rfl) (fun ls hl => ?_)
  have hl : lv_has ls 5 [(0, .ref hd), (1, .int x1), (2, .int x2), (3, .ref ho)] := hl
  refine lv_aload_n hx hb dL_part_0 rfl (lv_at hl 3 rfl) ?_
  refine lv_iconst (v := 0) hx hb dL_part_1 (by decide) ?_
  refine lv_aload_n hx hb dL_part_2 rfl (lv_at hl 0 rfl) ?_
  refine lv_iload_n hx hb dL_part_3 rfl (lv_at hl 1 rfl) ?_
  refine lv_iload_n hx hb dL_part_4 rfl (lv_at hl 2 rfl) ?_
  have hp0 : (wd ++ ocl G ho f).Perm (ocl G ho f ++ wd) := List.perm_append_comm
  have hP0 := kw_Pp hP hp0
  have hD1 := kw_Dp hD hp0
  refine kt_reti (wc := wd) (wr := (ocl G ho f)) (vx_runV (C := RD) (As := [.int x1, .int x2]) (rest := [.int 0, .ref ho]) ⟨hx, hb, hml, hown, hg⟩ (hM _) ⟨kw_cB (n := 2) hg gw_398 gw_1 gw_395 (by decide +kernel) (by decide +kernel) ⟨(by show rm.frames + 1 ≤ 8; omega), (by show 8 + (4 + 11) + rm.locals ≤ 190; omega)⟩ hrc hrs, hg _ gw_396, hg _ gw_397⟩ (kl_preV (q0 := q0) hK (kw_Pl hP0) (kw_Dl hD1) hE hS (kw_free hD1 hS (fun _ h => Or.inr h)) rfl hq) rfl rfl hl.1 rfl (lv_room (Nat.le_of_ble_eq_true rfl)) dL_part_5 ⟨(by show 0 + mc ≤ mc; omega), (by show 0 + ms ≤ ms; omega)⟩) hP0 hD1 hS (fun _ h => Or.inr h) (fun E ce q9 H locs hf hP hD hS h1 h2 h3 => ?_) (fun r u H locs hpo hP hD hS => ?_)
  · rcases hfx E hf with rfl | rfl | rfl
    · refine vx_catch (own := RL) (name := eI) hown [] ⟨0, 10, 13, 21⟩ [⟨0, 10, 17, 13⟩, ⟨0, 10, 21, 15⟩] hT (fun z hz => nomatch hz) rfl (by decide) (hg _ gw_301) (kl_castI hE) h1 h2 h3 ?_
      refine lv_astore hx hb dL_part_13 hl (by decide) rfl (fun ls hl => ?_)
      refine lv_iconst (v := 1) hx hb dL_part_15 (by decide) ?_
      refine W.widen (k := mc) (n := ms) (by omega) (by omega) ?_
      exact kl_iret (none : Option (Int32 × U)) hx hb hr hlocks hK (kw_Pp hP hp0.symm) (kw_Dp hD hp0.symm) hS ⟨eI, hf, by decide +kernel⟩ rfl dL_part_16
    · refine vx_catch (own := RL) (name := eA) hown [⟨0, 10, 13, 21⟩] ⟨0, 10, 17, 13⟩ [⟨0, 10, 21, 15⟩] hT (fun z hz => (by cases List.mem_singleton.1 hz; exact Or.inr ⟨by decide, eI, hg _ gw_301, hN.1⟩)) rfl (by decide) (hg _ gw_54) (kl_castA hE) h1 h2 h3 ?_
      refine lv_astore hx hb dL_part_17 hl (by decide) rfl (fun ls hl => ?_)
      refine lv_iconst (v := 2) hx hb dL_part_19 (by decide) ?_
      refine W.widen (k := mc) (n := ms) (by omega) (by omega) ?_
      exact kl_iret (none : Option (Int32 × U)) hx hb hr hlocks hK (kw_Pp hP hp0.symm) (kw_Dp hD hp0.symm) hS ⟨eA, hf, by decide +kernel⟩ rfl dL_part_20
    · refine vx_catch (own := RL) (name := eS) hown [⟨0, 10, 13, 21⟩, ⟨0, 10, 17, 13⟩] ⟨0, 10, 21, 15⟩ [] hT (fun z hz => (by rcases List.mem_cons.1 hz with rfl | hz; exact Or.inr ⟨by decide, eI, hg _ gw_301, hN.2.2.1⟩; cases List.mem_singleton.1 hz; exact Or.inr ⟨by decide, eA, hg _ gw_54, hN.2.1⟩)) rfl (by decide) (hg _ gw_55) (kl_castS hE) h1 h2 h3 ?_
      refine lv_astore hx hb dL_part_21 hl (by decide) rfl (fun ls hl => ?_)
      refine lv_iconst (v := 3) hx hb dL_part_23 (by decide) ?_
      refine W.widen (k := mc) (n := ms) (by omega) (by omega) ?_
      exact kl_iret (none : Option (Int32 × U)) hx hb hr hlocks hK (kw_Pp hP hp0.symm) (kw_Dp hD hp0.symm) hS ⟨eS, hf, by decide +kernel⟩ rfl dL_part_24
  · refine lv_i2l hx hb dL_part_8 rfl ?_
    have hp1 : (ocl G ho f ++ wf u).Perm (wf u ++ ocl G ho f) := List.perm_append_comm
    refine va_last hx hb hK (kw_Pp hP hp1) (kw_Dp hD hp1) hS 0 2 rfl rfl (vp_in_nI (n := 0) (by decide) (by decide)) dL_part_9 (fun H locs hP hD hS => ?_)
    refine lv_goto (tgt := 25) hx hb dL_part_10 (by decide) ?_
    refine lv_iconst (v := 0) hx hb dL_part_25 (by decide) ?_
    refine W.widen (k := mc) (n := ms) (by omega) (by omega) ?_
    exact kl_iret (some (r, u) : Option (Int32 × U)) hx hb hr hlocks hK hP hD hS ⟨rfl, hpo⟩ rfl dL_part_26
abbrev wgL_due : List Cond := .codeWith yL_due cL_due 5 (some .int) [(0, 10, 13, 21), (0, 10, 17, 13)] :: GW
set_option maxRecDepth 100000 in
set_option maxHeartbeats 4000000 in
theorem c_L_due (l : Launch) (D : va_G) (G : Nat → ClassId) (hd ho : Nat) (f : Nat → Int64) (x1 x2 : Int32) (wd : va_W) (q0 : Nat) (fs : List Value) (hq : wd[q0]? = some (hd, .inr (0, fs))) (rm : Room) (mc ms : Nat) (hrc : rm.cells = mc) (hrs : rm.slots = ms) (hrf : rm.frames ≤ 7) (hrl : rm.locals ≤ 152) (U : Type) (po : Int32 → U → Prop) (wf : U → va_W) (fx : String → Prop) (hfx : ∀ E, fx E → E = eI ∨ E = eA) (hM : ∀ sz, vx_Met l yD_due wgD_due rm (kt_Pc D vwCl (gt G) [.ref hd, .int x1, .int x2] wd sz) (va_Qi po (fun u t => kw_B D vwCl (gt G) (wf u) (va_A wd sz) t) (va_A wd sz)) (kt_X D vwCl (gt G) wd sz fx) mc ms (va_A wd sz)) (sz : Nat) : Met l yL_due wgL_due { frames := 8, cells := mc, slots := ms, locals := 190 } (kl_Pc D vwCl (gt G) [.ref hd, .int x1, .int x2, .ref ho] (ocl G ho f ++ wd) sz) (va_Qi (kl_po fx po cd_I) (fun z t => kw_B D vwCl (gt G) (kl_w G ho f wd wf z) (va_A (ocl G ho f ++ wd) sz) t) (va_A (ocl G ho f ++ wd) sz)) mc ms (va_A (ocl G ho f ++ wd) sz) := by
  refine vx_toMet (vx_ofWH (cc := cL_due) (maxL := 5) (ret := some .int) (hh := [(0, 10, 13, 21), (0, 10, 17, 13)]) (by decide) rfl ?_)
  intro p e s m args below meth c s₁ B hml hv
  have hx := B.exec
  have hb := B.bytes
  have hr := B.returns
  have hts := atoms_spec (ws := wgL_due) B.pre
  have hg : ∀ w ∈ GW, w.before args s = true := fun w h => hts w (List.mem_cons_of_mem _ h)
  have hown : s.vm.findClass RL = some m.cls := findClass_of_methodNamed B.named
  have hlocks := B.notSynchronized
  have hT := vx_table (x := yL_due) B (hg _ gw_401)
  obtain ⟨⟨⟨hv, hsz, hP, hK, hD0⟩, hE⟩, hN⟩ := hv
  subst hsz
  have hD := hD0.self (sz := s.heap.size)
  have hS : va_S (va_A (ocl G ho f ++ wd) s.heap.size) s.heap s.heap [] := va_S.rf
  refine kw_entry [.ref hd, .int x1, .int x2, .ref ho] hv (Nat.le_of_ble_eq_true rfl) (fun ls hl => ?_)
  have hl : lv_has ls 5 [(0, .ref hd), (1, .int x1), (2, .int x2), (3, .ref ho)] := hl
  refine lv_aload_n hx hb dL_due_0 rfl (lv_at hl 3 rfl) ?_
  refine lv_iconst (v := 0) hx hb dL_due_1 (by decide) ?_
  refine lv_aload_n hx hb dL_due_2 rfl (lv_at hl 0 rfl) ?_
  refine lv_iload_n hx hb dL_due_3 rfl (lv_at hl 1 rfl) ?_
  refine lv_iload_n hx hb dL_due_4 rfl (lv_at hl 2 rfl) ?_
  have hp0 : (wd ++ ocl G ho f).Perm (ocl G ho f ++ wd) := List.perm_append_comm
  have hP0 := kw_Pp hP hp0
  have hD1 := kw_Dp hD hp0
  refine kt_reti (wc := wd) (wr := (ocl G ho f)) (vx_runV (C := RD) (As := [.int x1, .int x2]) (rest := [.int 0, .ref ho]) ⟨hx, hb, hml, hown, hg⟩ (hM _) ⟨kw_cB (n := 2) hg gw_405 gw_1 gw_402 (by decide +kernel) (by decide +kernel) ⟨(by show rm.frames + 1 ≤ 8; omega), (by show 8 + (4 + 11) + rm.locals ≤ 190; omega)⟩ hrc hrs, hg _ gw_403, hg _ gw_404⟩ (kl_preV (q0 := q0) hK (kw_Pl hP0) (kw_Dl hD1) hE hS (kw_free hD1 hS (fun _ h => Or.inr h)) rfl hq) rfl rfl hl.1 rfl (lv_room (Nat.le_of_ble_eq_true rfl)) dL_due_5 ⟨(by show 0 + mc ≤ mc; omega), (by show 0 + ms ≤ ms; omega)⟩) hP0 hD1 hS (fun _ h => Or.inr h) (fun E ce q9 H locs hf hP hD hS h1 h2 h3 => ?_) (fun r u H locs hpo hP hD hS => ?_)
  · rcases hfx E hf with rfl | rfl
    · refine vx_catch (own := RL) (name := eI) hown [] ⟨0, 10, 13, 21⟩ [⟨0, 10, 17, 13⟩] hT (fun z hz => nomatch hz) rfl (by decide) (hg _ gw_301) (kl_castI hE) h1 h2 h3 ?_
      refine lv_astore hx hb dL_due_13 hl (by decide) rfl (fun ls hl => ?_)
      refine lv_iconst (v := 1) hx hb dL_due_15 (by decide) ?_
      refine W.widen (k := mc) (n := ms) (by omega) (by omega) ?_
      exact kl_iret (none : Option (Int32 × U)) hx hb hr hlocks hK (kw_Pp hP hp0.symm) (kw_Dp hD hp0.symm) hS ⟨eI, hf, by decide +kernel⟩ rfl dL_due_16
    · refine vx_catch (own := RL) (name := eA) hown [⟨0, 10, 13, 21⟩] ⟨0, 10, 17, 13⟩ [] hT (fun z hz => (by cases List.mem_singleton.1 hz; exact Or.inr ⟨by decide, eI, hg _ gw_301, hN.1⟩)) rfl (by decide) (hg _ gw_54) (kl_castA hE) h1 h2 h3 ?_
      refine lv_astore hx hb dL_due_17 hl (by decide) rfl (fun ls hl => ?_)
      refine lv_iconst (v := 2) hx hb dL_due_19 (by decide) ?_
      refine W.widen (k := mc) (n := ms) (by omega) (by omega) ?_
      exact kl_iret (none : Option (Int32 × U)) hx hb hr hlocks hK (kw_Pp hP hp0.symm) (kw_Dp hD hp0.symm) hS ⟨eA, hf, by decide +kernel⟩ rfl dL_due_20
  · refine lv_i2l hx hb dL_due_8 rfl ?_
    have hp1 : (ocl G ho f ++ wf u).Perm (wf u ++ ocl G ho f) := List.perm_append_comm
    refine va_last hx hb hK (kw_Pp hP hp1) (kw_Dp hD hp1) hS 0 2 rfl rfl (vp_in_nI (n := 0) (by decide) (by decide)) dL_due_9 (fun H locs hP hD hS => ?_)
    refine lv_goto (tgt := 21) hx hb dL_due_10 (by decide) ?_
    refine lv_iconst (v := 0) hx hb dL_due_21 (by decide) ?_
    refine W.widen (k := mc) (n := ms) (by omega) (by omega) ?_
    exact kl_iret (some (r, u) : Option (Int32 × U)) hx hb hr hlocks hK hP hD hS ⟨rfl, hpo⟩ rfl dL_due_22
abbrev wgL_principal : List Cond := .codeWith yL_principal cL_principal 4 (some .int) [(0, 9, 12, 21)] :: GW
set_option maxRecDepth 100000 in
set_option maxHeartbeats 4000000 in
theorem c_L_principal (l : Launch) (D : va_G) (G : Nat → ClassId) (hd ho : Nat) (f : Nat → Int64) (x1 : Int32) (wd : va_W) (q0 : Nat) (fs : List Value) (hq : wd[q0]? = some (hd, .inr (0, fs))) (rm : Room) (mc ms : Nat) (hrc : rm.cells = mc) (hrs : rm.slots = ms) (hrf : rm.frames ≤ 7) (hrl : rm.locals ≤ 152) (U : Type) (po : Int32 → U → Prop) (wf : U → va_W) (fx : String → Prop) (hfx : ∀ E, fx E → E = eI) (hM : ∀ sz, vx_Met l yD_principal wgD_principal rm (kt_Pc D vwCl (gt G) [.ref hd, .int x1] wd sz) (va_Qi po (fun u t => kw_B D vwCl (gt G) (wf u) (va_A wd sz) t) (va_A wd sz)) (kt_X D vwCl (gt G) wd sz fx) mc ms (va_A wd sz)) (sz : Nat) : Met l yL_principal wgL_principal { frames := 8, cells := mc, slots := ms, locals := 190 } (kl_Pc D vwCl (gt G) [.ref hd, .int x1, .ref ho] (ocl G ho f ++ wd) sz) (va_Qi (kl_po fx po cd_I) (fun z t => kw_B D vwCl (gt G) (kl_w G ho f wd wf z) (va_A (ocl G ho f ++ wd) sz) t) (va_A (ocl G ho f ++ wd) sz)) mc ms (va_A (ocl G ho f ++ wd) sz) := by
  refine vx_toMet (vx_ofWH (cc := cL_principal) (maxL := 4) (ret := some .int) (hh := [(0, 9, 12, 21)]) (by decide) rfl ?_)
  intro p e s m args below meth c s₁ B hml hv
  have hx := B.exec
  have hb := B.bytes
  have hr := B.returns
  have hts := atoms_spec (ws := wgL_principal) B.pre
  have hg : ∀ w ∈ GW, w.before args s = true := fun w h => hts w (List.mem_cons_of_mem _ h)
  have hown : s.vm.findClass RL = some m.cls := findClass_of_methodNamed B.named
  have hlocks := B.notSynchronized
  have hT := vx_table (x := yL_principal) B (hg _ gw_409)
  obtain ⟨⟨⟨hv, hsz, hP, hK, hD0⟩, hE⟩, hN⟩ := hv
  subst hsz
  have hD := hD0.self (sz := s.heap.size)
  have hS : va_S (va_A (ocl G ho f ++ wd) s.heap.size) s.heap s.heap [] := va_S.rf
  refine kw_entry [.ref hd, .int x1, .ref ho] hv (Nat.le_of_ble_eq_true rfl) (fun ls hl => ?_)
  have hl : lv_has ls 4 [(0, .ref hd), (1, .int x1), (2, .ref ho)] := hl
  refine lv_aload_n hx hb dL_principal_0 rfl (lv_at hl 2 rfl) ?_
  refine lv_iconst (v := 0) hx hb dL_principal_1 (by decide) ?_
  refine lv_aload_n hx hb dL_principal_2 rfl (lv_at hl 0 rfl) ?_
  refine lv_iload_n hx hb dL_principal_3 rfl (lv_at hl 1 rfl) ?_
  have hp0 : (wd ++ ocl G ho f).Perm (ocl G ho f ++ wd) := List.perm_append_comm
  have hP0 := kw_Pp hP hp0
  have hD1 := kw_Dp hD hp0
  refine kt_reti (wc := wd) (wr := (ocl G ho f)) (vx_runV (C := RD) (As := [.int x1]) (rest := [.int 0, .ref ho]) ⟨hx, hb, hml, hown, hg⟩ (hM _) ⟨kw_cB (n := 1) hg gw_413 gw_1 gw_410 (by decide +kernel) (by decide +kernel) ⟨(by show rm.frames + 1 ≤ 8; omega), (by show 8 + (2 + 11) + rm.locals ≤ 190; omega)⟩ hrc hrs, hg _ gw_411, hg _ gw_412⟩ (kl_preV (q0 := q0) hK (kw_Pl hP0) (kw_Dl hD1) hE hS (kw_free hD1 hS (fun _ h => Or.inr h)) rfl hq) rfl rfl hl.1 rfl (lv_room (Nat.le_of_ble_eq_true rfl)) dL_principal_4 ⟨(by show 0 + mc ≤ mc; omega), (by show 0 + ms ≤ ms; omega)⟩) hP0 hD1 hS (fun _ h => Or.inr h) (fun E ce q9 H locs hf hP hD hS h1 h2 h3 => ?_) (fun r u H locs hpo hP hD hS => ?_)
  · obtain rfl := hfx E hf
    refine vx_catch (own := RL) (name := eI) hown [] ⟨0, 9, 12, 21⟩ [] hT (fun z hz => nomatch hz) rfl (by decide) (hg _ gw_301) (kl_castI hE) h1 h2 h3 ?_
    refine lv_astore_n hx hb dL_principal_12 rfl hl (by decide) rfl (fun ls hl => ?_)
    refine lv_iconst (v := 1) hx hb dL_principal_13 (by decide) ?_
    refine W.widen (k := mc) (n := ms) (by omega) (by omega) ?_
    exact kl_iret (none : Option (Int32 × U)) hx hb hr hlocks hK (kw_Pp hP hp0.symm) (kw_Dp hD hp0.symm) hS ⟨eI, hf, by decide +kernel⟩ rfl dL_principal_14
  · refine lv_i2l hx hb dL_principal_7 rfl ?_
    have hp1 : (ocl G ho f ++ wf u).Perm (wf u ++ ocl G ho f) := List.perm_append_comm
    refine va_last hx hb hK (kw_Pp hP hp1) (kw_Dp hD hp1) hS 0 2 rfl rfl (vp_in_nI (n := 0) (by decide) (by decide)) dL_principal_8 (fun H locs hP hD hS => ?_)
    refine lv_goto (tgt := 15) hx hb dL_principal_9 (by decide) ?_
    refine lv_iconst (v := 0) hx hb dL_principal_15 (by decide) ?_
    refine W.widen (k := mc) (n := ms) (by omega) (by omega) ?_
    exact kl_iret (some (r, u) : Option (Int32 × U)) hx hb hr hlocks hK hP hD hS ⟨rfl, hpo⟩ rfl dL_principal_16
abbrev wgL_level : List Cond := .codeWith yL_level cL_level 4 (some .int) [(0, 9, 12, 21)] :: GW
set_option maxRecDepth 100000 in
set_option maxHeartbeats 4000000 in
theorem c_L_level (l : Launch) (D : va_G) (G : Nat → ClassId) (hd ho : Nat) (f : Nat → Int64) (x1 : Int32) (wd : va_W) (q0 : Nat) (fs : List Value) (hq : wd[q0]? = some (hd, .inr (0, fs))) (rm : Room) (mc ms : Nat) (hrc : rm.cells = mc) (hrs : rm.slots = ms) (hrf : rm.frames ≤ 7) (hrl : rm.locals ≤ 152) (U : Type) (po : Int32 → U → Prop) (wf : U → va_W) (fx : String → Prop) (hfx : ∀ E, fx E → E = eI) (hM : ∀ sz, vx_Met l yD_level wgD_level rm (kt_Pc D vwCl (gt G) [.ref hd, .int x1] wd sz) (va_Qi po (fun u t => kw_B D vwCl (gt G) (wf u) (va_A wd sz) t) (va_A wd sz)) (kt_X D vwCl (gt G) wd sz fx) mc ms (va_A wd sz)) (sz : Nat) : Met l yL_level wgL_level { frames := 8, cells := mc, slots := ms, locals := 190 } (kl_Pc D vwCl (gt G) [.ref hd, .int x1, .ref ho] (ocl G ho f ++ wd) sz) (va_Qi (kl_po fx po cd_I) (fun z t => kw_B D vwCl (gt G) (kl_w G ho f wd wf z) (va_A (ocl G ho f ++ wd) sz) t) (va_A (ocl G ho f ++ wd) sz)) mc ms (va_A (ocl G ho f ++ wd) sz) := by
  refine vx_toMet (vx_ofWH (cc := cL_level) (maxL := 4) (ret := some .int) (hh := [(0, 9, 12, 21)]) (by decide) rfl ?_)
  intro p e s m args below meth c s₁ B hml hv
  have hx := B.exec
  have hb := B.bytes
  have hr := B.returns
  have hts := atoms_spec (ws := wgL_level) B.pre
  have hg : ∀ w ∈ GW, w.before args s = true := fun w h => hts w (List.mem_cons_of_mem _ h)
  have hown : s.vm.findClass RL = some m.cls := findClass_of_methodNamed B.named
  have hlocks := B.notSynchronized
  have hT := vx_table (x := yL_level) B (hg _ gw_416)
  obtain ⟨⟨⟨hv, hsz, hP, hK, hD0⟩, hE⟩, hN⟩ := hv
  subst hsz
  have hD := hD0.self (sz := s.heap.size)
  have hS : va_S (va_A (ocl G ho f ++ wd) s.heap.size) s.heap s.heap [] := va_S.rf
  refine kw_entry [.ref hd, .int x1, .ref ho] hv (Nat.le_of_ble_eq_true rfl) (fun ls hl => ?_)
  have hl : lv_has ls 4 [(0, .ref hd), (1, .int x1), (2, .ref ho)] := hl
  refine lv_aload_n hx hb dL_level_0 rfl (lv_at hl 2 rfl) ?_
  refine lv_iconst (v := 0) hx hb dL_level_1 (by decide) ?_
  refine lv_aload_n hx hb dL_level_2 rfl (lv_at hl 0 rfl) ?_
  refine lv_iload_n hx hb dL_level_3 rfl (lv_at hl 1 rfl) ?_
  have hp0 : (wd ++ ocl G ho f).Perm (ocl G ho f ++ wd) := List.perm_append_comm
  have hP0 := kw_Pp hP hp0
  have hD1 := kw_Dp hD hp0
  refine kt_reti (wc := wd) (wr := (ocl G ho f)) (vx_runV (C := RD) (As := [.int x1]) (rest := [.int 0, .ref ho]) ⟨hx, hb, hml, hown, hg⟩ (hM _) ⟨kw_cB (n := 1) hg gw_420 gw_1 gw_417 (by decide +kernel) (by decide +kernel) ⟨(by show rm.frames + 1 ≤ 8; omega), (by show 8 + (2 + 11) + rm.locals ≤ 190; omega)⟩ hrc hrs, hg _ gw_418, hg _ gw_419⟩ (kl_preV (q0 := q0) hK (kw_Pl hP0) (kw_Dl hD1) hE hS (kw_free hD1 hS (fun _ h => Or.inr h)) rfl hq) rfl rfl hl.1 rfl (lv_room (Nat.le_of_ble_eq_true rfl)) dL_level_4 ⟨(by show 0 + mc ≤ mc; omega), (by show 0 + ms ≤ ms; omega)⟩) hP0 hD1 hS (fun _ h => Or.inr h) (fun E ce q9 H locs hf hP hD hS h1 h2 h3 => ?_) (fun r u H locs hpo hP hD hS => ?_)
  · obtain rfl := hfx E hf
    refine vx_catch (own := RL) (name := eI) hown [] ⟨0, 9, 12, 21⟩ [] hT (fun z hz => nomatch hz) rfl (by decide) (hg _ gw_301) (kl_castI hE) h1 h2 h3 ?_
    refine lv_astore_n hx hb dL_level_12 rfl hl (by decide) rfl (fun ls hl => ?_)
    refine lv_iconst (v := 1) hx hb dL_level_13 (by decide) ?_
    refine W.widen (k := mc) (n := ms) (by omega) (by omega) ?_
    exact kl_iret (none : Option (Int32 × U)) hx hb hr hlocks hK (kw_Pp hP hp0.symm) (kw_Dp hD hp0.symm) hS ⟨eI, hf, by decide +kernel⟩ rfl dL_level_14
  · refine lv_i2l hx hb dL_level_7 rfl ?_
    have hp1 : (ocl G ho f ++ wf u).Perm (wf u ++ ocl G ho f) := List.perm_append_comm
    refine va_last hx hb hK (kw_Pp hP hp1) (kw_Dp hD hp1) hS 0 2 rfl rfl (vp_in_nI (n := 0) (by decide) (by decide)) dL_level_8 (fun H locs hP hD hS => ?_)
    refine lv_goto (tgt := 15) hx hb dL_level_9 (by decide) ?_
    refine lv_iconst (v := 0) hx hb dL_level_15 (by decide) ?_
    refine W.widen (k := mc) (n := ms) (by omega) (by omega) ?_
    exact kl_iret (some (r, u) : Option (Int32 × U)) hx hb hr hlocks hK hP hD hS ⟨rfl, hpo⟩ rfl dL_level_16
abbrev wgL_accrued : List Cond := .codeWith yL_accrued cL_accrued 4 (some .int) [(0, 9, 12, 21)] :: GW
set_option maxRecDepth 100000 in
set_option maxHeartbeats 4000000 in
theorem c_L_accrued (l : Launch) (D : va_G) (G : Nat → ClassId) (hd ho : Nat) (f : Nat → Int64) (x1 : Int32) (wd : va_W) (q0 : Nat) (fs : List Value) (hq : wd[q0]? = some (hd, .inr (0, fs))) (rm : Room) (mc ms : Nat) (hrc : rm.cells = mc) (hrs : rm.slots = ms) (hrf : rm.frames ≤ 7) (hrl : rm.locals ≤ 152) (U : Type) (po : Int32 → U → Prop) (wf : U → va_W) (fx : String → Prop) (hfx : ∀ E, fx E → E = eI) (hM : ∀ sz, vx_Met l yD_accrued wgD_accrued rm (kt_Pc D vwCl (gt G) [.ref hd, .int x1] wd sz) (va_Qi po (fun u t => kw_B D vwCl (gt G) (wf u) (va_A wd sz) t) (va_A wd sz)) (kt_X D vwCl (gt G) wd sz fx) mc ms (va_A wd sz)) (sz : Nat) : Met l yL_accrued wgL_accrued { frames := 8, cells := mc, slots := ms, locals := 190 } (kl_Pc D vwCl (gt G) [.ref hd, .int x1, .ref ho] (ocl G ho f ++ wd) sz) (va_Qi (kl_po fx po cd_I) (fun z t => kw_B D vwCl (gt G) (kl_w G ho f wd wf z) (va_A (ocl G ho f ++ wd) sz) t) (va_A (ocl G ho f ++ wd) sz)) mc ms (va_A (ocl G ho f ++ wd) sz) := by
  refine vx_toMet (vx_ofWH (cc := cL_accrued) (maxL := 4) (ret := some .int) (hh := [(0, 9, 12, 21)]) (by decide) rfl ?_)
  intro p e s m args below meth c s₁ B hml hv
  have hx := B.exec
  have hb := B.bytes
  have hr := B.returns
  have hts := atoms_spec (ws := wgL_accrued) B.pre
  have hg : ∀ w ∈ GW, w.before args s = true := fun w h => hts w (List.mem_cons_of_mem _ h)
  have hown : s.vm.findClass RL = some m.cls := findClass_of_methodNamed B.named
  have hlocks := B.notSynchronized
  have hT := vx_table (x := yL_accrued) B (hg _ gw_423)
  obtain ⟨⟨⟨hv, hsz, hP, hK, hD0⟩, hE⟩, hN⟩ := hv
  subst hsz
  have hD := hD0.self (sz := s.heap.size)
  have hS : va_S (va_A (ocl G ho f ++ wd) s.heap.size) s.heap s.heap [] := va_S.rf
  refine kw_entry [.ref hd, .int x1, .ref ho] hv (Nat.le_of_ble_eq_true rfl) (fun ls hl => ?_)
  have hl : lv_has ls 4 [(0, .ref hd), (1, .int x1), (2, .ref ho)] := hl
  refine lv_aload_n hx hb dL_accrued_0 rfl (lv_at hl 2 rfl) ?_
  refine lv_iconst (v := 0) hx hb dL_accrued_1 (by decide) ?_
  refine lv_aload_n hx hb dL_accrued_2 rfl (lv_at hl 0 rfl) ?_
  refine lv_iload_n hx hb dL_accrued_3 rfl (lv_at hl 1 rfl) ?_
  have hp0 : (wd ++ ocl G ho f).Perm (ocl G ho f ++ wd) := List.perm_append_comm
  have hP0 := kw_Pp hP hp0
  have hD1 := kw_Dp hD hp0
  refine kt_reti (wc := wd) (wr := (ocl G ho f)) (vx_runV (C := RD) (As := [.int x1]) (rest := [.int 0, .ref ho]) ⟨hx, hb, hml, hown, hg⟩ (hM _) ⟨kw_cB (n := 1) hg gw_427 gw_1 gw_424 (by decide +kernel) (by decide +kernel) ⟨(by show rm.frames + 1 ≤ 8; omega), (by show 8 + (2 + 11) + rm.locals ≤ 190; omega)⟩ hrc hrs, hg _ gw_425, hg _ gw_426⟩ (kl_preV (q0 := q0) hK (kw_Pl hP0) (kw_Dl hD1) hE hS (kw_free hD1 hS (fun _ h => Or.inr h)) rfl hq) rfl rfl hl.1 rfl (lv_room (Nat.le_of_ble_eq_true rfl)) dL_accrued_4 ⟨(by show 0 + mc ≤ mc; omega), (by show 0 + ms ≤ ms; omega)⟩) hP0 hD1 hS (fun _ h => Or.inr h) (fun E ce q9 H locs hf hP hD hS h1 h2 h3 => ?_) (fun r u H locs hpo hP hD hS => ?_)
  · obtain rfl := hfx E hf
    refine vx_catch (own := RL) (name := eI) hown [] ⟨0, 9, 12, 21⟩ [] hT (fun z hz => nomatch hz) rfl (by decide) (hg _ gw_301) (kl_castI hE) h1 h2 h3 ?_
    refine lv_astore_n hx hb dL_accrued_12 rfl hl (by decide) rfl (fun ls hl => ?_)
    refine lv_iconst (v := 1) hx hb dL_accrued_13 (by decide) ?_
    refine W.widen (k := mc) (n := ms) (by omega) (by omega) ?_
    exact kl_iret (none : Option (Int32 × U)) hx hb hr hlocks hK (kw_Pp hP hp0.symm) (kw_Dp hD hp0.symm) hS ⟨eI, hf, by decide +kernel⟩ rfl dL_accrued_14
  · refine lv_i2l hx hb dL_accrued_7 rfl ?_
    have hp1 : (ocl G ho f ++ wf u).Perm (wf u ++ ocl G ho f) := List.perm_append_comm
    refine va_last hx hb hK (kw_Pp hP hp1) (kw_Dp hD hp1) hS 0 2 rfl rfl (vp_in_nI (n := 0) (by decide) (by decide)) dL_accrued_8 (fun H locs hP hD hS => ?_)
    refine lv_goto (tgt := 15) hx hb dL_accrued_9 (by decide) ?_
    refine lv_iconst (v := 0) hx hb dL_accrued_15 (by decide) ?_
    refine W.widen (k := mc) (n := ms) (by omega) (by omega) ?_
    exact kl_iret (some (r, u) : Option (Int32 × U)) hx hb hr hlocks hK hP hD hS ⟨rfl, hpo⟩ rfl dL_accrued_16
abbrev wgL_owed : List Cond := .codeWith yL_owed cL_owed 5 (some .int) [(0, 10, 13, 21), (0, 10, 17, 13)] :: GW
set_option maxRecDepth 100000 in
set_option maxHeartbeats 4000000 in
theorem c_L_owed (l : Launch) (D : va_G) (G : Nat → ClassId) (hd ho : Nat) (f : Nat → Int64) (x1 x2 : Int32) (wd : va_W) (q0 : Nat) (fs : List Value) (hq : wd[q0]? = some (hd, .inr (0, fs))) (rm : Room) (mc ms : Nat) (hrc : rm.cells = mc) (hrs : rm.slots = ms) (hrf : rm.frames ≤ 7) (hrl : rm.locals ≤ 152) (U : Type) (po : Int32 → U → Prop) (wf : U → va_W) (fx : String → Prop) (hfx : ∀ E, fx E → E = eI ∨ E = eA) (hM : ∀ sz, vx_Met l yD_owed wgD_owed rm (kt_Pc D vwCl (gt G) [.ref hd, .int x1, .int x2] wd sz) (va_Qi po (fun u t => kw_B D vwCl (gt G) (wf u) (va_A wd sz) t) (va_A wd sz)) (kt_X D vwCl (gt G) wd sz fx) mc ms (va_A wd sz)) (sz : Nat) : Met l yL_owed wgL_owed { frames := 8, cells := mc, slots := ms, locals := 190 } (kl_Pc D vwCl (gt G) [.ref hd, .int x1, .int x2, .ref ho] (ocl G ho f ++ wd) sz) (va_Qi (kl_po fx po cd_I) (fun z t => kw_B D vwCl (gt G) (kl_w G ho f wd wf z) (va_A (ocl G ho f ++ wd) sz) t) (va_A (ocl G ho f ++ wd) sz)) mc ms (va_A (ocl G ho f ++ wd) sz) := by
  refine vx_toMet (vx_ofWH (cc := cL_owed) (maxL := 5) (ret := some .int) (hh := [(0, 10, 13, 21), (0, 10, 17, 13)]) (by decide) rfl ?_)
  intro p e s m args below meth c s₁ B hml hv
  have hx := B.exec
  have hb := B.bytes
  have hr := B.returns
  have hts := atoms_spec (ws := wgL_owed) B.pre
  have hg : ∀ w ∈ GW, w.before args s = true := fun w h => hts w (List.mem_cons_of_mem _ h)
  have hown : s.vm.findClass RL = some m.cls := findClass_of_methodNamed B.named
  have hlocks := B.notSynchronized
  have hT := vx_table (x := yL_owed) B (hg _ gw_431)
  obtain ⟨⟨⟨hv, hsz, hP, hK, hD0⟩, hE⟩, hN⟩ := hv
  subst hsz
  have hD := hD0.self (sz := s.heap.size)
  have hS : va_S (va_A (ocl G ho f ++ wd) s.heap.size) s.heap s.heap [] := va_S.rf
  refine kw_entry [.ref hd, .int x1, .int x2, .ref ho] hv (Nat.le_of_ble_eq_true rfl) (fun ls hl => ?_)
  have hl : lv_has ls 5 [(0, .ref hd), (1, .int x1), (2, .int x2), (3, .ref ho)] := hl
  refine lv_aload_n hx hb dL_owed_0 rfl (lv_at hl 3 rfl) ?_
  refine lv_iconst (v := 0) hx hb dL_owed_1 (by decide) ?_
  refine lv_aload_n hx hb dL_owed_2 rfl (lv_at hl 0 rfl) ?_
  refine lv_iload_n hx hb dL_owed_3 rfl (lv_at hl 1 rfl) ?_
  refine lv_iload_n hx hb dL_owed_4 rfl (lv_at hl 2 rfl) ?_
  have hp0 : (wd ++ ocl G ho f).Perm (ocl G ho f ++ wd) := List.perm_append_comm
  have hP0 := kw_Pp hP hp0
  have hD1 := kw_Dp hD hp0
  refine kt_reti (wc := wd) (wr := (ocl G ho f)) (vx_runV (C := RD) (As := [.int x1, .int x2]) (rest := [.int 0, .ref ho]) ⟨hx, hb, hml, hown, hg⟩ (hM _) ⟨kw_cB (n := 2) hg gw_435 gw_1 gw_432 (by decide +kernel) (by decide +kernel) ⟨(by show rm.frames + 1 ≤ 8; omega), (by show 8 + (4 + 11) + rm.locals ≤ 190; omega)⟩ hrc hrs, hg _ gw_433, hg _ gw_434⟩ (kl_preV (q0 := q0) hK (kw_Pl hP0) (kw_Dl hD1) hE hS (kw_free hD1 hS (fun _ h => Or.inr h)) rfl hq) rfl rfl hl.1 rfl (lv_room (Nat.le_of_ble_eq_true rfl)) dL_owed_5 ⟨(by show 0 + mc ≤ mc; omega), (by show 0 + ms ≤ ms; omega)⟩) hP0 hD1 hS (fun _ h => Or.inr h) (fun E ce q9 H locs hf hP hD hS h1 h2 h3 => ?_) (fun r u H locs hpo hP hD hS => ?_)
  · rcases hfx E hf with rfl | rfl
    · refine vx_catch (own := RL) (name := eI) hown [] ⟨0, 10, 13, 21⟩ [⟨0, 10, 17, 13⟩] hT (fun z hz => nomatch hz) rfl (by decide) (hg _ gw_301) (kl_castI hE) h1 h2 h3 ?_
      refine lv_astore hx hb dL_owed_13 hl (by decide) rfl (fun ls hl => ?_)
      refine lv_iconst (v := 1) hx hb dL_owed_15 (by decide) ?_
      refine W.widen (k := mc) (n := ms) (by omega) (by omega) ?_
      exact kl_iret (none : Option (Int32 × U)) hx hb hr hlocks hK (kw_Pp hP hp0.symm) (kw_Dp hD hp0.symm) hS ⟨eI, hf, by decide +kernel⟩ rfl dL_owed_16
    · refine vx_catch (own := RL) (name := eA) hown [⟨0, 10, 13, 21⟩] ⟨0, 10, 17, 13⟩ [] hT (fun z hz => (by cases List.mem_singleton.1 hz; exact Or.inr ⟨by decide, eI, hg _ gw_301, hN.1⟩)) rfl (by decide) (hg _ gw_54) (kl_castA hE) h1 h2 h3 ?_
      refine lv_astore hx hb dL_owed_17 hl (by decide) rfl (fun ls hl => ?_)
      refine lv_iconst (v := 2) hx hb dL_owed_19 (by decide) ?_
      refine W.widen (k := mc) (n := ms) (by omega) (by omega) ?_
      exact kl_iret (none : Option (Int32 × U)) hx hb hr hlocks hK (kw_Pp hP hp0.symm) (kw_Dp hD hp0.symm) hS ⟨eA, hf, by decide +kernel⟩ rfl dL_owed_20
  · refine lv_i2l hx hb dL_owed_8 rfl ?_
    have hp1 : (ocl G ho f ++ wf u).Perm (wf u ++ ocl G ho f) := List.perm_append_comm
    refine va_last hx hb hK (kw_Pp hP hp1) (kw_Dp hD hp1) hS 0 2 rfl rfl (vp_in_nI (n := 0) (by decide) (by decide)) dL_owed_9 (fun H locs hP hD hS => ?_)
    refine lv_goto (tgt := 21) hx hb dL_owed_10 (by decide) ?_
    refine lv_iconst (v := 0) hx hb dL_owed_21 (by decide) ?_
    refine W.widen (k := mc) (n := ms) (by omega) (by omega) ?_
    exact kl_iret (some (r, u) : Option (Int32 × U)) hx hb hr hlocks hK hP hD hS ⟨rfl, hpo⟩ rfl dL_owed_22
abbrev wgL_escrow : List Cond := .codeWith yL_escrow cL_escrow 4 (some .int) [(0, 9, 12, 21)] :: GW
set_option maxRecDepth 100000 in
set_option maxHeartbeats 4000000 in
theorem c_L_escrow (l : Launch) (D : va_G) (G : Nat → ClassId) (hd ho : Nat) (f : Nat → Int64) (x1 : Int32) (wd : va_W) (q0 : Nat) (fs : List Value) (hq : wd[q0]? = some (hd, .inr (0, fs))) (rm : Room) (mc ms : Nat) (hrc : rm.cells = mc) (hrs : rm.slots = ms) (hrf : rm.frames ≤ 7) (hrl : rm.locals ≤ 152) (U : Type) (po : Int32 → U → Prop) (wf : U → va_W) (fx : String → Prop) (hfx : ∀ E, fx E → E = eI) (hM : ∀ sz, vx_Met l yD_escrow wgD_escrow rm (kt_Pc D vwCl (gt G) [.ref hd, .int x1] wd sz) (va_Qi po (fun u t => kw_B D vwCl (gt G) (wf u) (va_A wd sz) t) (va_A wd sz)) (kt_X D vwCl (gt G) wd sz fx) mc ms (va_A wd sz)) (sz : Nat) : Met l yL_escrow wgL_escrow { frames := 8, cells := mc, slots := ms, locals := 190 } (kl_Pc D vwCl (gt G) [.ref hd, .int x1, .ref ho] (ocl G ho f ++ wd) sz) (va_Qi (kl_po fx po cd_I) (fun z t => kw_B D vwCl (gt G) (kl_w G ho f wd wf z) (va_A (ocl G ho f ++ wd) sz) t) (va_A (ocl G ho f ++ wd) sz)) mc ms (va_A (ocl G ho f ++ wd) sz) := by
  refine vx_toMet (vx_ofWH (cc := cL_escrow) (maxL := 4) (ret := some .int) (hh := [(0, 9, 12, 21)]) (by decide) rfl ?_)
  intro p e s m args below meth c s₁ B hml hv
  have hx := B.exec
  have hb := B.bytes
  have hr := B.returns
  have hts := atoms_spec (ws := wgL_escrow) B.pre
  have hg : ∀ w ∈ GW, w.before args s = true := fun w h => hts w (List.mem_cons_of_mem _ h)
  have hown : s.vm.findClass RL = some m.cls := findClass_of_methodNamed B.named
  have hlocks := B.notSynchronized
  have hT := vx_table (x := yL_escrow) B (hg _ gw_438)
  obtain ⟨⟨⟨hv, hsz, hP, hK, hD0⟩, hE⟩, hN⟩ := hv
  subst hsz
  have hD := hD0.self (sz := s.heap.size)
  have hS : va_S (va_A (ocl G ho f ++ wd) s.heap.size) s.heap s.heap [] := va_S.rf
  refine kw_entry [.ref hd, .int x1, .ref ho] hv (Nat.le_of_ble_eq_true rfl) (fun ls hl => ?_)
  have hl : lv_has ls 4 [(0, .ref hd), (1, .int x1), (2, .ref ho)] := hl
  refine lv_aload_n hx hb dL_escrow_0 rfl (lv_at hl 2 rfl) ?_
  refine lv_iconst (v := 0) hx hb dL_escrow_1 (by decide) ?_
  refine lv_aload_n hx hb dL_escrow_2 rfl (lv_at hl 0 rfl) ?_
  refine lv_iload_n hx hb dL_escrow_3 rfl (lv_at hl 1 rfl) ?_
  have hp0 : (wd ++ ocl G ho f).Perm (ocl G ho f ++ wd) := List.perm_append_comm
  have hP0 := kw_Pp hP hp0
  have hD1 := kw_Dp hD hp0
  refine kt_reti (wc := wd) (wr := (ocl G ho f)) (vx_runV (C := RD) (As := [.int x1]) (rest := [.int 0, .ref ho]) ⟨hx, hb, hml, hown, hg⟩ (hM _) ⟨kw_cB (n := 1) hg gw_442 gw_1 gw_439 (by decide +kernel) (by decide +kernel) ⟨(by show rm.frames + 1 ≤ 8; omega), (by show 8 + (2 + 11) + rm.locals ≤ 190; omega)⟩ hrc hrs, hg _ gw_440, hg _ gw_441⟩ (kl_preV (q0 := q0) hK (kw_Pl hP0) (kw_Dl hD1) hE hS (kw_free hD1 hS (fun _ h => Or.inr h)) rfl hq) rfl rfl hl.1 rfl (lv_room (Nat.le_of_ble_eq_true rfl)) dL_escrow_4 ⟨(by show 0 + mc ≤ mc; omega), (by show 0 + ms ≤ ms; omega)⟩) hP0 hD1 hS (fun _ h => Or.inr h) (fun E ce q9 H locs hf hP hD hS h1 h2 h3 => ?_) (fun r u H locs hpo hP hD hS => ?_)
  · obtain rfl := hfx E hf
    refine vx_catch (own := RL) (name := eI) hown [] ⟨0, 9, 12, 21⟩ [] hT (fun z hz => nomatch hz) rfl (by decide) (hg _ gw_301) (kl_castI hE) h1 h2 h3 ?_
    refine lv_astore_n hx hb dL_escrow_12 rfl hl (by decide) rfl (fun ls hl => ?_)
    refine lv_iconst (v := 1) hx hb dL_escrow_13 (by decide) ?_
    refine W.widen (k := mc) (n := ms) (by omega) (by omega) ?_
    exact kl_iret (none : Option (Int32 × U)) hx hb hr hlocks hK (kw_Pp hP hp0.symm) (kw_Dp hD hp0.symm) hS ⟨eI, hf, by decide +kernel⟩ rfl dL_escrow_14
  · refine lv_i2l hx hb dL_escrow_7 rfl ?_
    have hp1 : (ocl G ho f ++ wf u).Perm (wf u ++ ocl G ho f) := List.perm_append_comm
    refine va_last hx hb hK (kw_Pp hP hp1) (kw_Dp hD hp1) hS 0 2 rfl rfl (vp_in_nI (n := 0) (by decide) (by decide)) dL_escrow_8 (fun H locs hP hD hS => ?_)
    refine lv_goto (tgt := 15) hx hb dL_escrow_9 (by decide) ?_
    refine lv_iconst (v := 0) hx hb dL_escrow_15 (by decide) ?_
    refine W.widen (k := mc) (n := ms) (by omega) (by omega) ?_
    exact kl_iret (some (r, u) : Option (Int32 × U)) hx hb hr hlocks hK hP hD hS ⟨rfl, hpo⟩ rfl dL_escrow_16
abbrev wgL_deposit : List Cond := .codeWith yL_deposit cL_deposit 4 (some .int) [(0, 9, 12, 21)] :: GW
set_option maxRecDepth 100000 in
set_option maxHeartbeats 4000000 in
theorem c_L_deposit (l : Launch) (D : va_G) (G : Nat → ClassId) (hd ho : Nat) (f : Nat → Int64) (x1 : Int32) (wd : va_W) (q0 : Nat) (fs : List Value) (hq : wd[q0]? = some (hd, .inr (0, fs))) (rm : Room) (mc ms : Nat) (hrc : rm.cells = mc) (hrs : rm.slots = ms) (hrf : rm.frames ≤ 7) (hrl : rm.locals ≤ 152) (U : Type) (po : Int32 → U → Prop) (wf : U → va_W) (fx : String → Prop) (hfx : ∀ E, fx E → E = eI) (hM : ∀ sz, vx_Met l yD_deposit wgD_deposit rm (kt_Pc D vwCl (gt G) [.ref hd, .int x1] wd sz) (va_Qi po (fun u t => kw_B D vwCl (gt G) (wf u) (va_A wd sz) t) (va_A wd sz)) (kt_X D vwCl (gt G) wd sz fx) mc ms (va_A wd sz)) (sz : Nat) : Met l yL_deposit wgL_deposit { frames := 8, cells := mc, slots := ms, locals := 190 } (kl_Pc D vwCl (gt G) [.ref hd, .int x1, .ref ho] (ocl G ho f ++ wd) sz) (va_Qi (kl_po fx po cd_I) (fun z t => kw_B D vwCl (gt G) (kl_w G ho f wd wf z) (va_A (ocl G ho f ++ wd) sz) t) (va_A (ocl G ho f ++ wd) sz)) mc ms (va_A (ocl G ho f ++ wd) sz) := by
  refine vx_toMet (vx_ofWH (cc := cL_deposit) (maxL := 4) (ret := some .int) (hh := [(0, 9, 12, 21)]) (by decide) rfl ?_)
  intro p e s m args below meth c s₁ B hml hv
  have hx := B.exec
  have hb := B.bytes
  have hr := B.returns
  have hts := atoms_spec (ws := wgL_deposit) B.pre
  have hg : ∀ w ∈ GW, w.before args s = true := fun w h => hts w (List.mem_cons_of_mem _ h)
  have hown : s.vm.findClass RL = some m.cls := findClass_of_methodNamed B.named
  have hlocks := B.notSynchronized
  have hT := vx_table (x := yL_deposit) B (hg _ gw_445)
  obtain ⟨⟨⟨hv, hsz, hP, hK, hD0⟩, hE⟩, hN⟩ := hv
  subst hsz
  have hD := hD0.self (sz := s.heap.size)
  have hS : va_S (va_A (ocl G ho f ++ wd) s.heap.size) s.heap s.heap [] := va_S.rf
  refine kw_entry [.ref hd, .int x1, .ref ho] hv (Nat.le_of_ble_eq_true rfl) (fun ls hl => ?_)
  have hl : lv_has ls 4 [(0, .ref hd), (1, .int x1), (2, .ref ho)] := hl
  refine lv_aload_n hx hb dL_deposit_0 rfl (lv_at hl 2 rfl) ?_
  refine lv_iconst (v := 0) hx hb dL_deposit_1 (by decide) ?_
  refine lv_aload_n hx hb dL_deposit_2 rfl (lv_at hl 0 rfl) ?_
  refine lv_iload_n hx hb dL_deposit_3 rfl (lv_at hl 1 rfl) ?_
  have hp0 : (wd ++ ocl G ho f).Perm (ocl G ho f ++ wd) := List.perm_append_comm
  have hP0 := kw_Pp hP hp0
  have hD1 := kw_Dp hD hp0
  refine kt_reti (wc := wd) (wr := (ocl G ho f)) (vx_runV (C := RD) (As := [.int x1]) (rest := [.int 0, .ref ho]) ⟨hx, hb, hml, hown, hg⟩ (hM _) ⟨kw_cB (n := 1) hg gw_449 gw_1 gw_446 (by decide +kernel) (by decide +kernel) ⟨(by show rm.frames + 1 ≤ 8; omega), (by show 8 + (2 + 11) + rm.locals ≤ 190; omega)⟩ hrc hrs, hg _ gw_447, hg _ gw_448⟩ (kl_preV (q0 := q0) hK (kw_Pl hP0) (kw_Dl hD1) hE hS (kw_free hD1 hS (fun _ h => Or.inr h)) rfl hq) rfl rfl hl.1 rfl (lv_room (Nat.le_of_ble_eq_true rfl)) dL_deposit_4 ⟨(by show 0 + mc ≤ mc; omega), (by show 0 + ms ≤ ms; omega)⟩) hP0 hD1 hS (fun _ h => Or.inr h) (fun E ce q9 H locs hf hP hD hS h1 h2 h3 => ?_) (fun r u H locs hpo hP hD hS => ?_)
  · obtain rfl := hfx E hf
    refine vx_catch (own := RL) (name := eI) hown [] ⟨0, 9, 12, 21⟩ [] hT (fun z hz => nomatch hz) rfl (by decide) (hg _ gw_301) (kl_castI hE) h1 h2 h3 ?_
    refine lv_astore_n hx hb dL_deposit_12 rfl hl (by decide) rfl (fun ls hl => ?_)
    refine lv_iconst (v := 1) hx hb dL_deposit_13 (by decide) ?_
    refine W.widen (k := mc) (n := ms) (by omega) (by omega) ?_
    exact kl_iret (none : Option (Int32 × U)) hx hb hr hlocks hK (kw_Pp hP hp0.symm) (kw_Dp hD hp0.symm) hS ⟨eI, hf, by decide +kernel⟩ rfl dL_deposit_14
  · refine lv_i2l hx hb dL_deposit_7 rfl ?_
    have hp1 : (ocl G ho f ++ wf u).Perm (wf u ++ ocl G ho f) := List.perm_append_comm
    refine va_last hx hb hK (kw_Pp hP hp1) (kw_Dp hD hp1) hS 0 2 rfl rfl (vp_in_nI (n := 0) (by decide) (by decide)) dL_deposit_8 (fun H locs hP hD hS => ?_)
    refine lv_goto (tgt := 15) hx hb dL_deposit_9 (by decide) ?_
    refine lv_iconst (v := 0) hx hb dL_deposit_15 (by decide) ?_
    refine W.widen (k := mc) (n := ms) (by omega) (by omega) ?_
    exact kl_iret (some (r, u) : Option (Int32 × U)) hx hb hr hlocks hK hP hD hS ⟨rfl, hpo⟩ rfl dL_deposit_16
abbrev wgL_bills : List Cond := .codeWith yL_bills cL_bills 4 (some .int) [(0, 9, 12, 21)] :: GW
set_option maxRecDepth 100000 in
set_option maxHeartbeats 4000000 in
theorem c_L_bills (l : Launch) (D : va_G) (G : Nat → ClassId) (hd ho : Nat) (f : Nat → Int64) (x1 : Int32) (wd : va_W) (q0 : Nat) (fs : List Value) (hq : wd[q0]? = some (hd, .inr (0, fs))) (rm : Room) (mc ms : Nat) (hrc : rm.cells = mc) (hrs : rm.slots = ms) (hrf : rm.frames ≤ 7) (hrl : rm.locals ≤ 152) (U : Type) (po : Int32 → U → Prop) (wf : U → va_W) (fx : String → Prop) (hfx : ∀ E, fx E → E = eI) (hM : ∀ sz, vx_Met l yD_bills wgD_bills rm (kt_Pc D vwCl (gt G) [.ref hd, .int x1] wd sz) (va_Qi po (fun u t => kw_B D vwCl (gt G) (wf u) (va_A wd sz) t) (va_A wd sz)) (kt_X D vwCl (gt G) wd sz fx) mc ms (va_A wd sz)) (sz : Nat) : Met l yL_bills wgL_bills { frames := 8, cells := mc, slots := ms, locals := 190 } (kl_Pc D vwCl (gt G) [.ref hd, .int x1, .ref ho] (ocl G ho f ++ wd) sz) (va_Qi (kl_po fx po cd_I) (fun z t => kw_B D vwCl (gt G) (kl_w G ho f wd wf z) (va_A (ocl G ho f ++ wd) sz) t) (va_A (ocl G ho f ++ wd) sz)) mc ms (va_A (ocl G ho f ++ wd) sz) := by
  refine vx_toMet (vx_ofWH (cc := cL_bills) (maxL := 4) (ret := some .int) (hh := [(0, 9, 12, 21)]) (by decide) rfl ?_)
  intro p e s m args below meth c s₁ B hml hv
  have hx := B.exec
  have hb := B.bytes
  have hr := B.returns
  have hts := atoms_spec (ws := wgL_bills) B.pre
  have hg : ∀ w ∈ GW, w.before args s = true := fun w h => hts w (List.mem_cons_of_mem _ h)
  have hown : s.vm.findClass RL = some m.cls := findClass_of_methodNamed B.named
  have hlocks := B.notSynchronized
  have hT := vx_table (x := yL_bills) B (hg _ gw_452)
  obtain ⟨⟨⟨hv, hsz, hP, hK, hD0⟩, hE⟩, hN⟩ := hv
  subst hsz
  have hD := hD0.self (sz := s.heap.size)
  have hS : va_S (va_A (ocl G ho f ++ wd) s.heap.size) s.heap s.heap [] := va_S.rf
  refine kw_entry [.ref hd, .int x1, .ref ho] hv (Nat.le_of_ble_eq_true rfl) (fun ls hl => ?_)
  have hl : lv_has ls 4 [(0, .ref hd), (1, .int x1), (2, .ref ho)] := hl
  refine lv_aload_n hx hb dL_bills_0 rfl (lv_at hl 2 rfl) ?_
  refine lv_iconst (v := 0) hx hb dL_bills_1 (by decide) ?_
  refine lv_aload_n hx hb dL_bills_2 rfl (lv_at hl 0 rfl) ?_
  refine lv_iload_n hx hb dL_bills_3 rfl (lv_at hl 1 rfl) ?_
  have hp0 : (wd ++ ocl G ho f).Perm (ocl G ho f ++ wd) := List.perm_append_comm
  have hP0 := kw_Pp hP hp0
  have hD1 := kw_Dp hD hp0
  refine kt_reti (wc := wd) (wr := (ocl G ho f)) (vx_runV (C := RD) (As := [.int x1]) (rest := [.int 0, .ref ho]) ⟨hx, hb, hml, hown, hg⟩ (hM _) ⟨kw_cB (n := 1) hg gw_456 gw_1 gw_453 (by decide +kernel) (by decide +kernel) ⟨(by show rm.frames + 1 ≤ 8; omega), (by show 8 + (2 + 11) + rm.locals ≤ 190; omega)⟩ hrc hrs, hg _ gw_454, hg _ gw_455⟩ (kl_preV (q0 := q0) hK (kw_Pl hP0) (kw_Dl hD1) hE hS (kw_free hD1 hS (fun _ h => Or.inr h)) rfl hq) rfl rfl hl.1 rfl (lv_room (Nat.le_of_ble_eq_true rfl)) dL_bills_4 ⟨(by show 0 + mc ≤ mc; omega), (by show 0 + ms ≤ ms; omega)⟩) hP0 hD1 hS (fun _ h => Or.inr h) (fun E ce q9 H locs hf hP hD hS h1 h2 h3 => ?_) (fun r u H locs hpo hP hD hS => ?_)
  · obtain rfl := hfx E hf
    refine vx_catch (own := RL) (name := eI) hown [] ⟨0, 9, 12, 21⟩ [] hT (fun z hz => nomatch hz) rfl (by decide) (hg _ gw_301) (kl_castI hE) h1 h2 h3 ?_
    refine lv_astore_n hx hb dL_bills_12 rfl hl (by decide) rfl (fun ls hl => ?_)
    refine lv_iconst (v := 1) hx hb dL_bills_13 (by decide) ?_
    refine W.widen (k := mc) (n := ms) (by omega) (by omega) ?_
    exact kl_iret (none : Option (Int32 × U)) hx hb hr hlocks hK (kw_Pp hP hp0.symm) (kw_Dp hD hp0.symm) hS ⟨eI, hf, by decide +kernel⟩ rfl dL_bills_14
  · refine lv_i2l hx hb dL_bills_7 rfl ?_
    have hp1 : (ocl G ho f ++ wf u).Perm (wf u ++ ocl G ho f) := List.perm_append_comm
    refine va_last hx hb hK (kw_Pp hP hp1) (kw_Dp hD hp1) hS 0 2 rfl rfl (vp_in_nI (n := 0) (by decide) (by decide)) dL_bills_8 (fun H locs hP hD hS => ?_)
    refine lv_goto (tgt := 15) hx hb dL_bills_9 (by decide) ?_
    refine lv_iconst (v := 0) hx hb dL_bills_15 (by decide) ?_
    refine W.widen (k := mc) (n := ms) (by omega) (by omega) ?_
    exact kl_iret (some (r, u) : Option (Int32 × U)) hx hb hr hlocks hK hP hD hS ⟨rfl, hpo⟩ rfl dL_bills_16
abbrev wgL_bill : List Cond := .codeWith yL_bill cL_bill 6 (some .int) [(0, 12, 15, 21), (0, 12, 19, 13), (0, 12, 23, 62)] :: GW
set_option maxRecDepth 100000 in
set_option maxHeartbeats 4000000 in
theorem c_L_bill (l : Launch) (D : va_G) (G : Nat → ClassId) (hd ho : Nat) (f : Nat → Int64) (x1 x2 x3 : Int32) (wd : va_W) (q0 : Nat) (fs : List Value) (hq : wd[q0]? = some (hd, .inr (0, fs))) (rm : Room) (mc ms : Nat) (hrc : rm.cells = mc) (hrs : rm.slots = ms) (hrf : rm.frames ≤ 7) (hrl : rm.locals ≤ 152) (U : Type) (po : Int32 → U → Prop) (wf : U → va_W) (fx : String → Prop) (hfx : ∀ E, fx E → E = eI ∨ E = eA ∨ E = eN) (hM : ∀ sz, vx_Met l yD_bill wgD_bill rm (kt_Pc D vwCl (gt G) [.ref hd, .int x1, .int x2, .int x3] wd sz) (va_Qi po (fun u t => kw_B D vwCl (gt G) (wf u) (va_A wd sz) t) (va_A wd sz)) (kt_X D vwCl (gt G) wd sz fx) mc ms (va_A wd sz)) (sz : Nat) : Met l yL_bill wgL_bill { frames := 8, cells := mc, slots := ms, locals := 190 } (kl_Pc D vwCl (gt G) [.ref hd, .int x1, .int x2, .int x3, .ref ho] (ocl G ho f ++ wd) sz) (va_Qi (kl_po fx po cd_I) (fun z t => kw_B D vwCl (gt G) (kl_w G ho f wd wf z) (va_A (ocl G ho f ++ wd) sz) t) (va_A (ocl G ho f ++ wd) sz)) mc ms (va_A (ocl G ho f ++ wd) sz) := by
  refine vx_toMet (vx_ofWH (cc := cL_bill) (maxL := 6) (ret := some .int) (hh := [(0, 12, 15, 21), (0, 12, 19, 13), (0, 12, 23, 62)]) (by decide) rfl ?_)
  intro p e s m args below meth c s₁ B hml hv
  have hx := B.exec
  have hb := B.bytes
  have hr := B.returns
  have hts := atoms_spec (ws := wgL_bill) B.pre
  have hg : ∀ w ∈ GW, w.before args s = true := fun w h => hts w (List.mem_cons_of_mem _ h)
  have hown : s.vm.findClass RL = some m.cls := findClass_of_methodNamed B.named
  have hlocks := B.notSynchronized
  have hT := vx_table (x := yL_bill) B (hg _ gw_459)
  obtain ⟨⟨⟨hv, hsz, hP, hK, hD0⟩, hE⟩, hN⟩ := hv
  subst hsz
  have hD := hD0.self (sz := s.heap.size)
  have hS : va_S (va_A (ocl G ho f ++ wd) s.heap.size) s.heap s.heap [] := va_S.rf
  refine kw_entry [.ref hd, .int x1, .int x2, .int x3, .ref ho] hv (Nat.le_of_ble_eq_true rfl) (fun ls hl => ?_)
  have hl : lv_has ls 6 [(0, .ref hd), (1, .int x1), (2, .int x2), (3, .int x3), (4, .ref ho)] := hl
  refine lv_aload hx hb dL_bill_0 (lv_at hl 4 rfl) ?_
  refine lv_iconst (v := 0) hx hb dL_bill_2 (by decide) ?_
  refine lv_aload_n hx hb dL_bill_3 rfl (lv_at hl 0 rfl) ?_
  refine lv_iload_n hx hb dL_bill_4 rfl (lv_at hl 1 rfl) ?_
  refine lv_iload_n hx hb dL_bill_5 rfl (lv_at hl 2 rfl) ?_
  refine lv_iload_n hx hb dL_bill_6 rfl (lv_at hl 3 rfl) ?_
  have hp0 : (wd ++ ocl G ho f).Perm (ocl G ho f ++ wd) := List.perm_append_comm
  have hP0 := kw_Pp hP hp0
  have hD1 := kw_Dp hD hp0
  refine kt_reti (wc := wd) (wr := (ocl G ho f)) (vx_runV (C := RD) (As := [.int x1, .int x2, .int x3]) (rest := [.int 0, .ref ho]) ⟨hx, hb, hml, hown, hg⟩ (hM _) ⟨kw_cB (n := 3) hg gw_464 gw_1 gw_461 (by decide +kernel) (by decide +kernel) ⟨(by show rm.frames + 1 ≤ 8; omega), (by show 8 + (5 + 11) + rm.locals ≤ 190; omega)⟩ hrc hrs, hg _ gw_462, hg _ gw_463⟩ (kl_preV (q0 := q0) hK (kw_Pl hP0) (kw_Dl hD1) hE hS (kw_free hD1 hS (fun _ h => Or.inr h)) rfl hq) rfl rfl hl.1 rfl (lv_room (Nat.le_of_ble_eq_true rfl)) dL_bill_7 ⟨(by show 0 + mc ≤ mc; omega), (by show 0 + ms ≤ ms; omega)⟩) hP0 hD1 hS (fun _ h => Or.inr h) (fun E ce q9 H locs hf hP hD hS h1 h2 h3 => ?_) (fun r u H locs hpo hP hD hS => ?_)
  · rcases hfx E hf with rfl | rfl | rfl
    · refine vx_catch (own := RL) (name := eI) hown [] ⟨0, 12, 15, 21⟩ [⟨0, 12, 19, 13⟩, ⟨0, 12, 23, 62⟩] hT (fun z hz => nomatch hz) rfl (by decide) (hg _ gw_301) (kl_castI hE) h1 h2 h3 ?_
      refine lv_astore hx hb dL_bill_15 hl (by decide) rfl (fun ls hl => ?_)
      refine lv_iconst (v := 1) hx hb dL_bill_17 (by decide) ?_
      refine W.widen (k := mc) (n := ms) (by omega) (by omega) ?_
      exact kl_iret (none : Option (Int32 × U)) hx hb hr hlocks hK (kw_Pp hP hp0.symm) (kw_Dp hD hp0.symm) hS ⟨eI, hf, by decide +kernel⟩ rfl dL_bill_18
    · refine vx_catch (own := RL) (name := eA) hown [⟨0, 12, 15, 21⟩] ⟨0, 12, 19, 13⟩ [⟨0, 12, 23, 62⟩] hT (fun z hz => (by cases List.mem_singleton.1 hz; exact Or.inr ⟨by decide, eI, hg _ gw_301, hN.1⟩)) rfl (by decide) (hg _ gw_54) (kl_castA hE) h1 h2 h3 ?_
      refine lv_astore hx hb dL_bill_19 hl (by decide) rfl (fun ls hl => ?_)
      refine lv_iconst (v := 2) hx hb dL_bill_21 (by decide) ?_
      refine W.widen (k := mc) (n := ms) (by omega) (by omega) ?_
      exact kl_iret (none : Option (Int32 × U)) hx hb hr hlocks hK (kw_Pp hP hp0.symm) (kw_Dp hD hp0.symm) hS ⟨eA, hf, by decide +kernel⟩ rfl dL_bill_22
    · refine vx_catch (own := RL) (name := eN) hown [⟨0, 12, 15, 21⟩, ⟨0, 12, 19, 13⟩] ⟨0, 12, 23, 62⟩ [] hT (fun z hz => (by rcases List.mem_cons.1 hz with rfl | hz; exact Or.inr ⟨by decide, eI, hg _ gw_301, hN.2.2.2.1⟩; cases List.mem_singleton.1 hz; exact Or.inr ⟨by decide, eA, hg _ gw_54, hN.2.2.2.2⟩)) rfl (by decide) (hg _ gw_460) (kl_castN hE) h1 h2 h3 ?_
      refine lv_astore hx hb dL_bill_23 hl (by decide) rfl (fun ls hl => ?_)
      refine lv_iconst (v := 3) hx hb dL_bill_25 (by decide) ?_
      refine W.widen (k := mc) (n := ms) (by omega) (by omega) ?_
      exact kl_iret (none : Option (Int32 × U)) hx hb hr hlocks hK (kw_Pp hP hp0.symm) (kw_Dp hD hp0.symm) hS ⟨eN, hf, by decide +kernel⟩ rfl dL_bill_26
  · refine lv_i2l hx hb dL_bill_10 rfl ?_
    have hp1 : (ocl G ho f ++ wf u).Perm (wf u ++ ocl G ho f) := List.perm_append_comm
    refine va_last hx hb hK (kw_Pp hP hp1) (kw_Dp hD hp1) hS 0 2 rfl rfl (vp_in_nI (n := 0) (by decide) (by decide)) dL_bill_11 (fun H locs hP hD hS => ?_)
    refine lv_goto (tgt := 27) hx hb dL_bill_12 (by decide) ?_
    refine lv_iconst (v := 0) hx hb dL_bill_27 (by decide) ?_
    refine W.widen (k := mc) (n := ms) (by omega) (by omega) ?_
    exact kl_iret (some (r, u) : Option (Int32 × U)) hx hb hr hlocks hK hP hD hS ⟨rfl, hpo⟩ rfl dL_bill_28
abbrev wgL_interest : List Cond := .codeWith yL_interest cL_interest 9 (some .int) [(0, 18, 21, 13)] :: GW
set_option maxRecDepth 100000 in
set_option maxHeartbeats 4000000 in
theorem c_L_interest (l : Launch) (D : va_G) (G : Nat → ClassId) (hd ho : Nat) (f : Nat → Int64) (x1 x2 x3 x4 x5 x6 : Int32) (wd : va_W) (q0 : Nat) (fs : List Value) (hq : wd[q0]? = some (hd, .inr (0, fs))) (rm : Room) (mc ms : Nat) (hrc : rm.cells = mc) (hrs : rm.slots = ms) (hrf : rm.frames ≤ 7) (hrl : rm.locals ≤ 152) (U : Type) (po : Int32 → U → Prop) (wf : U → va_W) (fx : String → Prop) (hfx : ∀ E, fx E → E = eA) (hM : ∀ sz, vx_Met l yD_interest wgD_interest rm (kt_Pc D vwCl (gt G) [.ref hd, .int x1, .int x2, .int x3, .int x4, .int x5, .int x6] wd sz) (va_Qi po (fun u t => kw_B D vwCl (gt G) (wf u) (va_A wd sz) t) (va_A wd sz)) (kt_X D vwCl (gt G) wd sz fx) mc ms (va_A wd sz)) (sz : Nat) : Met l yL_interest wgL_interest { frames := 8, cells := mc, slots := ms, locals := 190 } (kl_Pc D vwCl (gt G) [.ref hd, .int x1, .int x2, .int x3, .int x4, .int x5, .int x6, .ref ho] (ocl G ho f ++ wd) sz) (va_Qi (kl_po fx po cd_A) (fun z t => kw_B D vwCl (gt G) (kl_w G ho f wd wf z) (va_A (ocl G ho f ++ wd) sz) t) (va_A (ocl G ho f ++ wd) sz)) mc ms (va_A (ocl G ho f ++ wd) sz) := by
  refine vx_toMet (vx_ofWH (cc := cL_interest) (maxL := 9) (ret := some .int) (hh := [(0, 18, 21, 13)]) (by decide) rfl ?_)
  intro p e s m args below meth c s₁ B hml hv
  have hx := B.exec
  have hb := B.bytes
  have hr := B.returns
  have hts := atoms_spec (ws := wgL_interest) B.pre
  have hg : ∀ w ∈ GW, w.before args s = true := fun w h => hts w (List.mem_cons_of_mem _ h)
  have hown : s.vm.findClass RL = some m.cls := findClass_of_methodNamed B.named
  have hlocks := B.notSynchronized
  have hT := vx_table (x := yL_interest) B (hg _ gw_481)
  obtain ⟨⟨⟨hv, hsz, hP, hK, hD0⟩, hE⟩, hN⟩ := hv
  subst hsz
  have hD := hD0.self (sz := s.heap.size)
  have hS : va_S (va_A (ocl G ho f ++ wd) s.heap.size) s.heap s.heap [] := va_S.rf
  refine kw_entry [.ref hd, .int x1, .int x2, .int x3, .int x4, .int x5, .int x6, .ref ho] hv (Nat.le_of_ble_eq_true rfl) (fun ls hl => ?_)
  have hl : lv_has ls 9 [(0, .ref hd), (1, .int x1), (2, .int x2), (3, .int x3), (4, .int x4), (5, .int x5), (6, .int x6), (7, .ref ho)] := hl
  refine lv_aload hx hb dL_interest_0 (lv_at hl 7 rfl) ?_
  refine lv_iconst (v := 0) hx hb dL_interest_2 (by decide) ?_
  refine lv_aload_n hx hb dL_interest_3 rfl (lv_at hl 0 rfl) ?_
  refine lv_iload_n hx hb dL_interest_4 rfl (lv_at hl 1 rfl) ?_
  refine lv_iload_n hx hb dL_interest_5 rfl (lv_at hl 2 rfl) ?_
  refine lv_iload_n hx hb dL_interest_6 rfl (lv_at hl 3 rfl) ?_
  refine lv_iload hx hb dL_interest_7 (lv_at hl 4 rfl) ?_
  refine lv_iload hx hb dL_interest_9 (lv_at hl 5 rfl) ?_
  refine lv_iload hx hb dL_interest_11 (lv_at hl 6 rfl) ?_
  have hp0 : (wd ++ ocl G ho f).Perm (ocl G ho f ++ wd) := List.perm_append_comm
  have hP0 := kw_Pp hP hp0
  have hD1 := kw_Dp hD hp0
  refine kt_reti (wc := wd) (wr := (ocl G ho f)) (vx_runV (C := RD) (As := [.int x1, .int x2, .int x3, .int x4, .int x5, .int x6]) (rest := [.int 0, .ref ho]) ⟨hx, hb, hml, hown, hg⟩ (hM _) ⟨kw_cB (n := 6) hg gw_485 gw_1 gw_482 (by decide +kernel) (by decide +kernel) ⟨(by show rm.frames + 1 ≤ 8; omega), (by show 8 + (7 + 11) + rm.locals ≤ 190; omega)⟩ hrc hrs, hg _ gw_483, hg _ gw_484⟩ (kl_preV (q0 := q0) hK (kw_Pl hP0) (kw_Dl hD1) hE hS (kw_free hD1 hS (fun _ h => Or.inr h)) rfl hq) rfl rfl hl.1 rfl (lv_room (Nat.le_of_ble_eq_true rfl)) dL_interest_13 ⟨(by show 0 + mc ≤ mc; omega), (by show 0 + ms ≤ ms; omega)⟩) hP0 hD1 hS (fun _ h => Or.inr h) (fun E ce q9 H locs hf hP hD hS h1 h2 h3 => ?_) (fun r u H locs hpo hP hD hS => ?_)
  · obtain rfl := hfx E hf
    refine vx_catch (own := RL) (name := eA) hown [] ⟨0, 18, 21, 13⟩ [] hT (fun z hz => nomatch hz) rfl (by decide) (hg _ gw_54) (kl_castA hE) h1 h2 h3 ?_
    refine lv_astore hx hb dL_interest_21 hl (by decide) rfl (fun ls hl => ?_)
    refine lv_iconst (v := 1) hx hb dL_interest_23 (by decide) ?_
    refine W.widen (k := mc) (n := ms) (by omega) (by omega) ?_
    exact kl_iret (none : Option (Int32 × U)) hx hb hr hlocks hK (kw_Pp hP hp0.symm) (kw_Dp hD hp0.symm) hS ⟨eA, hf, by decide +kernel⟩ rfl dL_interest_24
  · refine lv_i2l hx hb dL_interest_16 rfl ?_
    have hp1 : (ocl G ho f ++ wf u).Perm (wf u ++ ocl G ho f) := List.perm_append_comm
    refine va_last hx hb hK (kw_Pp hP hp1) (kw_Dp hD hp1) hS 0 2 rfl rfl (vp_in_nI (n := 0) (by decide) (by decide)) dL_interest_17 (fun H locs hP hD hS => ?_)
    refine lv_goto (tgt := 25) hx hb dL_interest_18 (by decide) ?_
    refine lv_iconst (v := 0) hx hb dL_interest_25 (by decide) ?_
    refine W.widen (k := mc) (n := ms) (by omega) (by omega) ?_
    exact kl_iret (some (r, u) : Option (Int32 × U)) hx hb hr hlocks hK hP hD hS ⟨rfl, hpo⟩ rfl dL_interest_26
