/-! the law: the cases of its switch -/
set_option maxRecDepth 100000 in
set_option maxHeartbeats 4000000 in
theorem lw_pay {p : Program} {l : Launch} {e : Env} {R : Room} {s : State} {m : MethodId} {args : Array Value} {below : List Frame} {meth : Method} {c : Code} {H : Heap} {locs : List Loc} {cells slots : Nat} {Q : State → Prop} {ls : Array Slot} (hlt : l.stackTraces = false) (hx : p.tables.exec = Jvm.exec) (hb : c.code = cL_law) (hml : c.maxLocals = 7) (hown : s.vm.findClass RL = some m.cls) (hg : ∀ w ∈ GW, w.before args s = true) {D : va_G} {G : Nat → ClassId} (hK : va_K D vwCl (gt G) s) {A : Nat → Prop} (hA : ∀ q, s.heap.size ≤ q → A q) (hE : kt_E A s) (hN : kl_N s) {sb L : Nat} {xs : Nat → Int32} (hX : va_X sb L xs s s.heap) (hbl : sb < s.heap.size) (hbA : ¬ A sb) (hR : 10 ≤ R.frames ∧ 300 ≤ R.locals) {hd ha ho : Nat} {b : Nat → Nat} {i : Nat} (hi : i + 7 ≤ L) (hL : L < 2 ^ 31) (hcs : cells + 8 ≤ R.cells ∧ slots + 321 ≤ R.slots) (z : kZ) (σ : KS) (u : Int32 × Int32 × Int32) (hrd : rd z.1 σ z.2.2.2) (hgz : kz_g z) (hP : va_P D vwCl (kz_w G hd ha ho z ++ mcells G b (scr σ u)) H) (hD : va_D A (kz_w G hd ha ho z ++ mcells G b (scr σ u))) (hS : va_S A s.heap H locs) (hl : lv_has ls 7 [(4, .int (nI i)), (0, .ref sb), (1, .ref hd), (2, .ref (b 0)), (3, .ref ho)])
    (kk : ∀ (z : kZ) (σ : KS) (u : Int32 × Int32 × Int32) (ls : Array Slot) (H : Heap) (locs : List Loc), rd z.1 σ z.2.2.2 → kz_g z → va_P D vwCl (kz_w G hd ha ho z ++ mcells G b (scr σ u)) H → va_D A (kz_w G hd ha ho z ++ mcells G b (scr σ u)) → va_S A s.heap H locs → lv_has ls 7 [(4, .int (nI i)), (0, .ref sb), (1, .ref hd), (2, .ref (b 0)), (3, .ref ho)] → W p l e R s m args below meth c H locs (cells + 8) (slots + 321) Q (F0 m 1177 ls [])) :
    W p l e R s m args below meth c H locs cells slots Q (F0 m 358 ls []) := by
  refine lv_aload_n hx hb dL_law_358 rfl (lv_at hl 2 rfl) ?_
  refine lv_aload_n hx hb dL_law_359 rfl (lv_at hl 1 rfl) ?_
  refine lv_iload hx hb dL_law_360 (lv_at hl 0 rfl) ?_
  refine lv_iconst (v := 1) hx hb dL_law_362 (by decide) ?_
  refine lv_iadd hx hb dL_law_363 ?_
  refine ks_ld hx hb hX hbl hbA hS 1 (by omega) hL rfl dL_law_364 ?_
  refine lv_aload_n hx hb dL_law_365 rfl (lv_at hl 1 rfl) ?_
  refine lv_iload hx hb dL_law_366 (lv_at hl 0 rfl) ?_
  refine lv_iconst (v := 2) hx hb dL_law_368 (by decide) ?_
  refine lv_iadd hx hb dL_law_369 ?_
  refine ks_ld hx hb hX hbl hbA hS 2 (by omega) hL rfl dL_law_370 ?_
  refine lv_aload_n hx hb dL_law_371 rfl (lv_at hl 4 rfl) ?_
  obtain ⟨mc, ms, hmc, hms, hM⟩ := km_pay l hlt D G hd ha ho z σ hrd hgz (xs (i + 1)) (xs (i + 2))
  refine kg_reti (wc := kz_w G hd ha ho z) (wr := mcells G b (scr σ u)) (vx_runSW (As := [.ref hd, .int (xs (i + 1)), .int (xs (i + 2)), .ref ho]) (rest := []) ⟨hx, hb, hml, hown, hg⟩ (hM _) (kl_cSW (n := 4) hg gw_378 gw_0 gw_376 gw_377 (by decide +kernel) (by decide +kernel) ⟨Nat.le_trans (Nat.le_of_ble_eq_true rfl) hR.1, Nat.le_trans (Nat.le_of_ble_eq_true rfl) hR.2⟩ rfl rfl) (kl_preS hK (kw_Pl hP) (kw_Dl hD) hE hN hS (kw_free hD hS hA)) rfl rfl hl.1 rfl (lv_room (Nat.le_of_ble_eq_true rfl)) dL_law_372 ⟨(by omega), (by omega)⟩) hP hD hS hA (fun k z2 H locs hpo hP hD hS => ?_)
  refine W.widen (k := cells + 8) (n := slots + 321) (by omega) (by omega) ?_
  refine lv_istore hx hb dL_law_375 hl (by decide) rfl (fun ls hl => ?_)
  have hl : lv_has ls 7 [(5, .int k), (4, .int (nI i)), (0, .ref sb), (1, .ref hd), (2, .ref (b 0)), (3, .ref ho)] := hl
  refine lv_aload_n hx hb dL_law_377 rfl (lv_at hl 4 rfl) ?_
  refine lv_aload_n hx hb dL_law_378 rfl (lv_at hl 2 rfl) ?_
  refine lv_iload hx hb dL_law_379 (lv_at hl 1 rfl) ?_
  refine lv_iconst (v := 1) hx hb dL_law_381 (by decide) ?_
  refine lv_iadd hx hb dL_law_382 ?_
  refine ks_ld hx hb hX hbl hbA hS 1 (by omega) hL rfl dL_law_383 ?_
  refine lv_aload_n hx hb dL_law_384 rfl (lv_at hl 2 rfl) ?_
  refine lv_iload hx hb dL_law_385 (lv_at hl 1 rfl) ?_
  refine lv_iconst (v := 2) hx hb dL_law_387 (by decide) ?_
  refine lv_iadd hx hb dL_law_388 ?_
  refine ks_ld hx hb hX hbl hbA hS 2 (by omega) hL rfl dL_law_389 ?_
  have hq : (mcells G b (scr σ u) ++ kz_w G hd ha ho z2).Perm (kz_w G hd ha ho z2 ++ mcells G b (scr σ u)) := List.perm_append_comm
  refine kg_reti (wc := mcells G b (scr σ u)) (wr := kz_w G hd ha ho z2) (va_runV (C := RM) (As := [.int (xs (i + 1)), .int (xs (i + 2))]) (rest := []) ⟨hx, hb, hml, hown, hg⟩ (c_M_pay l D G b σ u (xs (i + 1)) (xs (i + 2)) _ _ hrd.2.2.1 hrd.2.2.2.1 (rd_today hrd) (rd_pay_hpp hrd _)) ⟨kw_cB (n := 2) hg gw_683 gw_2 gw_680 (by decide +kernel) (by decide +kernel) ⟨Nat.le_trans (Nat.le_of_ble_eq_true rfl) hR.1, Nat.le_trans (Nat.le_of_ble_eq_true rfl) hR.2⟩ rfl rfl, hg _ gw_681, hg _ gw_682⟩ (kw_preV (q0 := 0) hK (kw_Pl (kw_Pp hP hq)) (kw_Dl (kw_Dp hD hq)) rfl rfl) rfl rfl hl.1 rfl (lv_room (Nat.le_of_ble_eq_true rfl)) dL_law_390 ⟨(by show (cells + 8) + 0 ≤ R.cells; omega), (by show (slots + 321) + 0 ≤ R.slots; omega)⟩) (kw_Pp hP hq) (kw_Dp hD hq) hS hA (fun r u2 H locs hr2 hP hD hS => ?_)
  have hP := kw_Pp hP (List.perm_append_comm : (kz_w G hd ha ho z2 ++ mcells G b (scr (kM_pay σ (xs (i + 1)) (xs (i + 2))).2 u2)).Perm (mcells G b (scr (kM_pay σ (xs (i + 1)) (xs (i + 2))).2 u2) ++ kz_w G hd ha ho z2))
  have hD := kw_Dp hD (List.perm_append_comm : (kz_w G hd ha ho z2 ++ mcells G b (scr (kM_pay σ (xs (i + 1)) (xs (i + 2))).2 u2)).Perm (mcells G b (scr (kM_pay σ (xs (i + 1)) (xs (i + 2))).2 u2) ++ kz_w G hd ha ho z2))
  refine lv_istore hx hb dL_law_393 hl (by decide) rfl (fun ls hl => ?_)
  have hl : lv_has ls 7 [(6, .int r), (5, .int k), (4, .int (nI i)), (0, .ref sb), (1, .ref hd), (2, .ref (b 0)), (3, .ref ho)] := hl
  refine lv_aload_n hx hb dL_law_395 rfl (lv_at hl 5 rfl) ?_
  have hq : (mcells G b (scr (kM_pay σ (xs (i + 1)) (xs (i + 2))).2 u2) ++ kz_w G hd ha ho z2).Perm (kz_w G hd ha ho z2 ++ mcells G b (scr (kM_pay σ (xs (i + 1)) (xs (i + 2))).2 u2)) := List.perm_append_comm
  refine kg_reti (wc := mcells G b (scr (kM_pay σ (xs (i + 1)) (xs (i + 2))).2 u2)) (wr := kz_w G hd ha ho z2) (va_runV (C := RM) (As := []) (rest := []) ⟨hx, hb, hml, hown, hg⟩ (c_M_thrown l D G b (kM_pay σ (xs (i + 1)) (xs (i + 2))).2 u2 _) ⟨kw_cB (n := 0) hg gw_583 gw_2 gw_580 (by decide +kernel) (by decide +kernel) ⟨Nat.le_trans (Nat.le_of_ble_eq_true rfl) hR.1, Nat.le_trans (Nat.le_of_ble_eq_true rfl) hR.2⟩ rfl rfl, hg _ gw_581, hg _ gw_582⟩ (kw_preV (q0 := 0) hK (kw_Pl (kw_Pp hP hq)) (kw_Dl (kw_Dp hD hq)) rfl rfl) rfl rfl hl.1 rfl (lv_room (Nat.le_of_ble_eq_true rfl)) dL_law_396 ⟨(by show (cells + 8) + 0 ≤ R.cells; omega), (by show (slots + 321) + 0 ≤ R.slots; omega)⟩) (kw_Pp hP hq) (kw_Dp hD hq) hS hA (fun w u3 H locs hw hP hD hS => ?_)
  have hP := kw_Pp hP (List.perm_append_comm : (kz_w G hd ha ho z2 ++ mcells G b (scr (kM_pay σ (xs (i + 1)) (xs (i + 2))).2 u3)).Perm (mcells G b (scr (kM_pay σ (xs (i + 1)) (xs (i + 2))).2 u3) ++ kz_w G hd ha ho z2))
  have hD := kw_Dp hD (List.perm_append_comm : (kz_w G hd ha ho z2 ++ mcells G b (scr (kM_pay σ (xs (i + 1)) (xs (i + 2))).2 u3)).Perm (mcells G b (scr (kM_pay σ (xs (i + 1)) (xs (i + 2))).2 u3) ++ kz_w G hd ha ho z2))
  refine lv_iload hx hb dL_law_399 (lv_at hl 1 rfl) ?_
  have ek : w = k := hw.trans hpo.1
  refine lv_icmp_eq (tgt := 406) hx hb dL_law_401 (by decide) (fun _ => ?_) (fun h => absurd ek h)
  refine lv_iload hx hb dL_law_406 (lv_at hl 1 rfl) ?_
  refine lv_if_ne (tgt := 423) hx hb dL_law_408 (by decide) (fun _ => ?_) (fun h0 => ?_)
  · refine lv_goto (tgt := 1177) hx hb dL_law_423 (by decide) ?_
    exact kk z2 (kM_pay σ (xs (i + 1)) (xs (i + 2))).2 u3 _ _ _ hpo.2.2.1 hpo.2.2.2 hP hD hS (lv_sub hl [2, 3, 4, 5, 6] rfl)
  · refine lv_aload_n hx hb dL_law_411 rfl (lv_at hl 6 rfl) ?_
    refine lv_iconst (v := 0) hx hb dL_law_412 (by decide) ?_
    refine va_lald hx hb hK hP 0 2 rfl rfl (vp_in_nI (n := 0) (by decide) (by decide)) dL_law_413 ?_
    refine lv_iload hx hb dL_law_414 (lv_at hl 0 rfl) ?_
    refine lv_i2l hx hb dL_law_416 rfl ?_
    refine W.lcmp hx hb dL_law_417 ?_
    have eo : z2.2.1 0 = r.toInt64 := (hpo.2.1 h0).trans (congrArg Int32.toInt64 hr2).symm
    refine lv_if_eq (tgt := 423) hx hb dL_law_418 (by decide) (fun _ => ?_) (fun h => absurd ((lg_cmp_eq _ _).2 eo) h)
    refine lv_goto (tgt := 1177) hx hb dL_law_423 (by decide) ?_
    exact kk z2 (kM_pay σ (xs (i + 1)) (xs (i + 2))).2 u3 _ _ _ hpo.2.2.1 hpo.2.2.2 hP hD hS (lv_sub hl [2, 3, 4, 5, 6] rfl)
set_option maxRecDepth 100000 in
set_option maxHeartbeats 4000000 in
theorem lw_date {p : Program} {l : Launch} {e : Env} {R : Room} {s : State} {m : MethodId} {args : Array Value} {below : List Frame} {meth : Method} {c : Code} {H : Heap} {locs : List Loc} {cells slots : Nat} {Q : State → Prop} {ls : Array Slot} (hlt : l.stackTraces = false) (hx : p.tables.exec = Jvm.exec) (hb : c.code = cL_law) (hml : c.maxLocals = 7) (hown : s.vm.findClass RL = some m.cls) (hg : ∀ w ∈ GW, w.before args s = true) {D : va_G} {G : Nat → ClassId} (hK : va_K D vwCl (gt G) s) {A : Nat → Prop} (hA : ∀ q, s.heap.size ≤ q → A q) (hE : kt_E A s) (hN : kl_N s) {sb L : Nat} {xs : Nat → Int32} (hX : va_X sb L xs s s.heap) (hbl : sb < s.heap.size) (hbA : ¬ A sb) (hR : 10 ≤ R.frames ∧ 300 ≤ R.locals) {hd ha ho : Nat} {b : Nat → Nat} {i : Nat} (hi : i + 7 ≤ L) (hL : L < 2 ^ 31) (hcs : cells + 8 ≤ R.cells ∧ slots + 321 ≤ R.slots) (z : kZ) (σ : KS) (u : Int32 × Int32 × Int32) (hrd : rd z.1 σ z.2.2.2) (hgz : kz_g z) (hP : va_P D vwCl (kz_w G hd ha ho z ++ mcells G b (scr σ u)) H) (hD : va_D A (kz_w G hd ha ho z ++ mcells G b (scr σ u))) (hS : va_S A s.heap H locs) (hl : lv_has ls 7 [(4, .int (nI i)), (0, .ref sb), (1, .ref hd), (2, .ref (b 0)), (3, .ref ho)])
    (kk : ∀ (z : kZ) (σ : KS) (u : Int32 × Int32 × Int32) (ls : Array Slot) (H : Heap) (locs : List Loc), rd z.1 σ z.2.2.2 → kz_g z → va_P D vwCl (kz_w G hd ha ho z ++ mcells G b (scr σ u)) H → va_D A (kz_w G hd ha ho z ++ mcells G b (scr σ u)) → va_S A s.heap H locs → lv_has ls 7 [(4, .int (nI i)), (0, .ref sb), (1, .ref hd), (2, .ref (b 0)), (3, .ref ho)] → W p l e R s m args below meth c H locs (cells + 8) (slots + 321) Q (F0 m 1177 ls [])) :
    W p l e R s m args below meth c H locs cells slots Q (F0 m 494 ls []) := by
  refine lv_aload_n hx hb dL_law_494 rfl (lv_at hl 2 rfl) ?_
  have hq0 : (kz_d G hd ha z ++ (ocl G ho z.2.1 ++ mcells G b (scr σ u))).Perm (kz_w G hd ha ho z ++ mcells G b (scr σ u)) := by
    unfold kz_w
    rw [← List.append_assoc]
    exact List.Perm.append_right _ List.perm_append_comm
  refine kw_reti (wc := kz_d G hd ha z) (wr := ocl G ho z.2.1 ++ mcells G b (scr σ u)) (va_runV (C := RD) (As := []) (rest := []) ⟨hx, hb, hml, hown, hg⟩ (c_D_date l D G hd ha (nI z.1.length) (nI z.2.2.2) z.2.2.1 (lfm G z.1) km0 _) ⟨kw_cB (n := 0) hg gw_40 gw_1 gw_37 (by decide +kernel) (by decide +kernel) ⟨Nat.le_trans (Nat.le_of_ble_eq_true rfl) hR.1, Nat.le_trans (Nat.le_of_ble_eq_true rfl) hR.2⟩ rfl rfl, hg _ gw_38, hg _ gw_39⟩ (kw_preV (q0 := 0) hK (kw_Pl (kw_Pp hP hq0)) (kw_Dl (kw_Dp hD hq0)) rfl rfl) rfl rfl hl.1 rfl (lv_room (Nat.le_of_ble_eq_true rfl)) dL_law_495 ⟨(by show cells + 0 ≤ R.cells; omega), (by show slots + 0 ≤ R.slots; omega)⟩) (kw_Pp hP hq0) (kw_Dp hD hq0) hS hA (fun H locs hP hD hS => ?_)
  have hP : va_P D vwCl (kz_w G hd ha ho z ++ mcells G b (scr σ u)) H := kw_Pp hP hq0.symm
  have hD : va_D A (kz_w G hd ha ho z ++ mcells G b (scr σ u)) := kw_Dp hD hq0.symm
  refine lv_aload_n hx hb dL_law_498 rfl (lv_at hl 3 rfl) ?_
  have hq : (mcells G b (scr σ u) ++ kz_w G hd ha ho z).Perm (kz_w G hd ha ho z ++ mcells G b (scr σ u)) := List.perm_append_comm
  refine kg_reti (wc := mcells G b (scr σ u)) (wr := kz_w G hd ha ho z) (va_runV (C := RM) (As := []) (rest := [.int (kD_date km0 (nI z.2.2.2))]) ⟨hx, hb, hml, hown, hg⟩ (c_M_date l D G b σ u _) ⟨kw_cB (n := 0) hg gw_587 gw_2 gw_584 (by decide +kernel) (by decide +kernel) ⟨Nat.le_trans (Nat.le_of_ble_eq_true rfl) hR.1, Nat.le_trans (Nat.le_of_ble_eq_true rfl) hR.2⟩ rfl rfl, hg _ gw_585, hg _ gw_586⟩ (kw_preV (q0 := 0) hK (kw_Pl (kw_Pp hP hq)) (kw_Dl (kw_Dp hD hq)) rfl rfl) rfl rfl hl.1 rfl (lv_room (Nat.le_of_ble_eq_true rfl)) dL_law_499 ⟨(by show cells + 0 ≤ R.cells; omega), (by show slots + 0 ≤ R.slots; omega)⟩) (kw_Pp hP hq) (kw_Dp hD hq) hS hA (fun r u2 H locs hr2 hP hD hS => ?_)
  have hP := kw_Pp hP (List.perm_append_comm : (kz_w G hd ha ho z ++ mcells G b (scr (kM_date σ).2 u2)).Perm (mcells G b (scr (kM_date σ).2 u2) ++ kz_w G hd ha ho z))
  have hD := kw_Dp hD (List.perm_append_comm : (kz_w G hd ha ho z ++ mcells G b (scr (kM_date σ).2 u2)).Perm (mcells G b (scr (kM_date σ).2 u2) ++ kz_w G hd ha ho z))
  have hdt := rd_date hrd
  refine lv_icmp_eq (tgt := 1177) hx hb dL_law_502 (by decide) (fun _ => ?_) (fun h => absurd (hdt.1.trans hr2.symm) h)
  refine W.widen (k := cells + 8) (n := slots + 321) (by omega) (by omega) ?_
  exact kk z (kM_date σ).2 u2 _ _ _ hdt.2 hgz hP hD hS hl
set_option maxRecDepth 100000 in
set_option maxHeartbeats 4000000 in
theorem lw_charge {p : Program} {l : Launch} {e : Env} {R : Room} {s : State} {m : MethodId} {args : Array Value} {below : List Frame} {meth : Method} {c : Code} {H : Heap} {locs : List Loc} {cells slots : Nat} {Q : State → Prop} {ls : Array Slot} (hlt : l.stackTraces = false) (hx : p.tables.exec = Jvm.exec) (hb : c.code = cL_law) (hml : c.maxLocals = 7) (hown : s.vm.findClass RL = some m.cls) (hg : ∀ w ∈ GW, w.before args s = true) {D : va_G} {G : Nat → ClassId} (hK : va_K D vwCl (gt G) s) {A : Nat → Prop} (hA : ∀ q, s.heap.size ≤ q → A q) (hE : kt_E A s) (hN : kl_N s) {sb L : Nat} {xs : Nat → Int32} (hX : va_X sb L xs s s.heap) (hbl : sb < s.heap.size) (hbA : ¬ A sb) (hR : 10 ≤ R.frames ∧ 300 ≤ R.locals) {hd ha ho : Nat} {b : Nat → Nat} {i : Nat} (hi : i + 7 ≤ L) (hL : L < 2 ^ 31) (hcs : cells + 8 ≤ R.cells ∧ slots + 321 ≤ R.slots) (z : kZ) (σ : KS) (u : Int32 × Int32 × Int32) (hrd : rd z.1 σ z.2.2.2) (hgz : kz_g z) (hP : va_P D vwCl (kz_w G hd ha ho z ++ mcells G b (scr σ u)) H) (hD : va_D A (kz_w G hd ha ho z ++ mcells G b (scr σ u))) (hS : va_S A s.heap H locs) (hl : lv_has ls 7 [(4, .int (nI i)), (0, .ref sb), (1, .ref hd), (2, .ref (b 0)), (3, .ref ho)])
    (kk : ∀ (z : kZ) (σ : KS) (u : Int32 × Int32 × Int32) (ls : Array Slot) (H : Heap) (locs : List Loc), rd z.1 σ z.2.2.2 → kz_g z → va_P D vwCl (kz_w G hd ha ho z ++ mcells G b (scr σ u)) H → va_D A (kz_w G hd ha ho z ++ mcells G b (scr σ u)) → va_S A s.heap H locs → lv_has ls 7 [(4, .int (nI i)), (0, .ref sb), (1, .ref hd), (2, .ref (b 0)), (3, .ref ho)] → W p l e R s m args below meth c H locs (cells + 8) (slots + 321) Q (F0 m 1177 ls [])) :
    W p l e R s m args below meth c H locs cells slots Q (F0 m 254 ls []) := by
  refine lv_aload_n hx hb dL_law_254 rfl (lv_at hl 2 rfl) ?_
  refine lv_aload_n hx hb dL_law_255 rfl (lv_at hl 1 rfl) ?_
  refine lv_iload hx hb dL_law_256 (lv_at hl 0 rfl) ?_
  refine lv_iconst (v := 1) hx hb dL_law_258 (by decide) ?_
  refine lv_iadd hx hb dL_law_259 ?_
  refine ks_ld hx hb hX hbl hbA hS 1 (by omega) hL rfl dL_law_260 ?_
  refine lv_aload_n hx hb dL_law_261 rfl (lv_at hl 1 rfl) ?_
  refine lv_iload hx hb dL_law_262 (lv_at hl 0 rfl) ?_
  refine lv_iconst (v := 2) hx hb dL_law_264 (by decide) ?_
  refine lv_iadd hx hb dL_law_265 ?_
  refine ks_ld hx hb hX hbl hbA hS 2 (by omega) hL rfl dL_law_266 ?_
  obtain ⟨mc, ms, hmc, hms, hM⟩ := km_charge l hlt D G hd ha z σ hrd hgz (xs (i + 1)) (xs (i + 2))
  have hq0 : (kz_d G hd ha z ++ (ocl G ho z.2.1 ++ mcells G b (scr σ u))).Perm (kz_w G hd ha ho z ++ mcells G b (scr σ u)) := by
    unfold kz_w
    rw [← List.append_assoc]
    exact List.Perm.append_right _ List.perm_append_comm
  refine kg_reti (wc := kz_d G hd ha z) (wr := ocl G ho z.2.1 ++ mcells G b (scr σ u)) (vx_runSW (As := [.ref hd, .int (xs (i + 1)), .int (xs (i + 2))]) (rest := []) ⟨hx, hb, hml, hown, hg⟩ (hM _) (kl_cSW (n := 3) hg gw_300 gw_0 gw_298 gw_299 (by decide +kernel) (by decide +kernel) ⟨Nat.le_trans (Nat.le_of_ble_eq_true rfl) hR.1, Nat.le_trans (Nat.le_of_ble_eq_true rfl) hR.2⟩ rfl rfl) (kl_preS hK (kw_Pl (kw_Pp hP hq0)) (kw_Dl (kw_Dp hD hq0)) hE hN hS (kw_free (kw_Dp hD hq0) hS hA)) rfl rfl hl.1 rfl (lv_room (Nat.le_of_ble_eq_true rfl)) dL_law_267 ⟨(by omega), (by omega)⟩) (kw_Pp hP hq0) (kw_Dp hD hq0) hS hA (fun k z2 H locs hpo hP hD hS => ?_)
  refine W.widen (k := cells + 8) (n := slots + 321) (by omega) (by omega) ?_
  obtain ⟨Ls2, f2, g2, t2⟩ := z2
  have hq1 : (kz_w G hd ha ho (Ls2, z.2.1, g2, t2) ++ mcells G b (scr σ u)).Perm (kz_d G hd ha (Ls2, f2, g2, t2) ++ (ocl G ho z.2.1 ++ mcells G b (scr σ u))) := by
    rw [← List.append_assoc]
    exact List.Perm.append_right _ List.perm_append_comm
  have hP := kw_Pp hP hq1
  have hD := kw_Dp hD hq1
  refine lv_istore hx hb dL_law_270 hl (by decide) rfl (fun ls hl => ?_)
  have hl : lv_has ls 7 [(5, .int k), (4, .int (nI i)), (0, .ref sb), (1, .ref hd), (2, .ref (b 0)), (3, .ref ho)] := hl
  refine lv_aload_n hx hb dL_law_272 rfl (lv_at hl 4 rfl) ?_
  refine lv_aload_n hx hb dL_law_273 rfl (lv_at hl 2 rfl) ?_
  refine lv_iload hx hb dL_law_274 (lv_at hl 1 rfl) ?_
  refine lv_iconst (v := 1) hx hb dL_law_276 (by decide) ?_
  refine lv_iadd hx hb dL_law_277 ?_
  refine ks_ld hx hb hX hbl hbA hS 1 (by omega) hL rfl dL_law_278 ?_
  refine lv_aload_n hx hb dL_law_279 rfl (lv_at hl 2 rfl) ?_
  refine lv_iload hx hb dL_law_280 (lv_at hl 1 rfl) ?_
  refine lv_iconst (v := 2) hx hb dL_law_282 (by decide) ?_
  refine lv_iadd hx hb dL_law_283 ?_
  refine ks_ld hx hb hX hbl hbA hS 2 (by omega) hL rfl dL_law_284 ?_
  have hq : (mcells G b (scr σ u) ++ kz_w G hd ha ho (Ls2, z.2.1, g2, t2)).Perm (kz_w G hd ha ho (Ls2, z.2.1, g2, t2) ++ mcells G b (scr σ u)) := List.perm_append_comm
  refine kg_retv (wc := mcells G b (scr σ u)) (wr := kz_w G hd ha ho (Ls2, z.2.1, g2, t2)) (va_runV (C := RM) (As := [.int (xs (i + 1)), .int (xs (i + 2))]) (rest := []) ⟨hx, hb, hml, hown, hg⟩ (c_M_charge l D G b σ u (xs (i + 1)) (xs (i + 2)) _ _ hrd.2.2.1 hrd.2.2.2.1) ⟨kw_cB (n := 2) hg gw_652 gw_2 gw_649 (by decide +kernel) (by decide +kernel) ⟨Nat.le_trans (Nat.le_of_ble_eq_true rfl) hR.1, Nat.le_trans (Nat.le_of_ble_eq_true rfl) hR.2⟩ rfl rfl, hg _ gw_650, hg _ gw_651⟩ (kw_preV (q0 := 0) hK (kw_Pl (kw_Pp hP hq)) (kw_Dl (kw_Dp hD hq)) rfl rfl) rfl rfl hl.1 rfl (lv_room (Nat.le_of_ble_eq_true rfl)) dL_law_285 ⟨(by show (cells + 8) + 0 ≤ R.cells; omega), (by show (slots + 321) + 0 ≤ R.slots; omega)⟩) (kw_Pp hP hq) (kw_Dp hD hq) hS hA (fun u2 H locs _ hP hD hS => ?_)
  have hP := kw_Pp hP (List.perm_append_comm : (kz_w G hd ha ho (Ls2, z.2.1, g2, t2) ++ mcells G b (scr (kM_charge σ (xs (i + 1)) (xs (i + 2))) u2)).Perm (mcells G b (scr (kM_charge σ (xs (i + 1)) (xs (i + 2))) u2) ++ kz_w G hd ha ho (Ls2, z.2.1, g2, t2)))
  have hD := kw_Dp hD (List.perm_append_comm : (kz_w G hd ha ho (Ls2, z.2.1, g2, t2) ++ mcells G b (scr (kM_charge σ (xs (i + 1)) (xs (i + 2))) u2)).Perm (mcells G b (scr (kM_charge σ (xs (i + 1)) (xs (i + 2))) u2) ++ kz_w G hd ha ho (Ls2, z.2.1, g2, t2)))
  refine lv_aload_n hx hb dL_law_288 rfl (lv_at hl 4 rfl) ?_
  have hq : (mcells G b (scr (kM_charge σ (xs (i + 1)) (xs (i + 2))) u2) ++ kz_w G hd ha ho (Ls2, z.2.1, g2, t2)).Perm (kz_w G hd ha ho (Ls2, z.2.1, g2, t2) ++ mcells G b (scr (kM_charge σ (xs (i + 1)) (xs (i + 2))) u2)) := List.perm_append_comm
  refine kg_reti (wc := mcells G b (scr (kM_charge σ (xs (i + 1)) (xs (i + 2))) u2)) (wr := kz_w G hd ha ho (Ls2, z.2.1, g2, t2)) (va_runV (C := RM) (As := []) (rest := []) ⟨hx, hb, hml, hown, hg⟩ (c_M_thrown l D G b (kM_charge σ (xs (i + 1)) (xs (i + 2))) u2 _) ⟨kw_cB (n := 0) hg gw_583 gw_2 gw_580 (by decide +kernel) (by decide +kernel) ⟨Nat.le_trans (Nat.le_of_ble_eq_true rfl) hR.1, Nat.le_trans (Nat.le_of_ble_eq_true rfl) hR.2⟩ rfl rfl, hg _ gw_581, hg _ gw_582⟩ (kw_preV (q0 := 0) hK (kw_Pl (kw_Pp hP hq)) (kw_Dl (kw_Dp hD hq)) rfl rfl) rfl rfl hl.1 rfl (lv_room (Nat.le_of_ble_eq_true rfl)) dL_law_289 ⟨(by show (cells + 8) + 0 ≤ R.cells; omega), (by show (slots + 321) + 0 ≤ R.slots; omega)⟩) (kw_Pp hP hq) (kw_Dp hD hq) hS hA (fun w u3 H locs hw hP hD hS => ?_)
  have hP := kw_Pp hP (List.perm_append_comm : (kz_w G hd ha ho (Ls2, z.2.1, g2, t2) ++ mcells G b (scr (kM_charge σ (xs (i + 1)) (xs (i + 2))) u3)).Perm (mcells G b (scr (kM_charge σ (xs (i + 1)) (xs (i + 2))) u3) ++ kz_w G hd ha ho (Ls2, z.2.1, g2, t2)))
  have hD := kw_Dp hD (List.perm_append_comm : (kz_w G hd ha ho (Ls2, z.2.1, g2, t2) ++ mcells G b (scr (kM_charge σ (xs (i + 1)) (xs (i + 2))) u3)).Perm (mcells G b (scr (kM_charge σ (xs (i + 1)) (xs (i + 2))) u3) ++ kz_w G hd ha ho (Ls2, z.2.1, g2, t2)))
  refine lv_iload hx hb dL_law_292 (lv_at hl 0 rfl) ?_
  have ek : w = k := hw.trans hpo.1
  refine lv_icmp_eq (tgt := 299) hx hb dL_law_294 (by decide) (fun _ => ?_) (fun h => absurd ek h)
  refine lv_goto (tgt := 1177) hx hb dL_law_299 (by decide) ?_
  exact kk (Ls2, z.2.1, g2, t2) (kM_charge σ (xs (i + 1)) (xs (i + 2))) u3 _ _ _ hpo.2.1 hpo.2.2 hP hD hS (lv_sub hl [1, 2, 3, 4, 5] rfl)
