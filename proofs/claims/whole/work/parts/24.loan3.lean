/-! a loan's days and payments -/
def kN_splitPayment (σ : KS) (cents : Int32) : KS := mkL (σ 0 0) (σ 0 1) (σ 0 2) (σ 0 3) (σ 0 4) (σ 0 5) (σ 0 6) (σ 0 10) (σ 0 11) (σ 0 12) (σ 0 13) (σ 0 14) (σ 0 15) (σ 0 16) (σ 0 20) (σ 0 21) (σ 0 22) (σ 0 30) (σ 1) (upd (upd (upd (upd (upd (upd (σ 2) 0 (kmin cents (σ 1 0))) 1 (kmin (cents - (kmin cents (σ 1 0))) (σ 1 1))) 2 (kmin ((cents - (kmin cents (σ 1 0))) - (kmin (cents - (kmin cents (σ 1 0))) (σ 1 1))) (σ 1 2))) 3 (kmin (((cents - (kmin cents (σ 1 0))) - (kmin (cents - (kmin cents (σ 1 0))) (σ 1 1))) - (kmin ((cents - (kmin cents (σ 1 0))) - (kmin (cents - (kmin cents (σ 1 0))) (σ 1 1))) (σ 1 2))) (σ 1 3))) 4 (kmin ((((cents - (kmin cents (σ 1 0))) - (kmin (cents - (kmin cents (σ 1 0))) (σ 1 1))) - (kmin ((cents - (kmin cents (σ 1 0))) - (kmin (cents - (kmin cents (σ 1 0))) (σ 1 1))) (σ 1 2))) - (kmin (((cents - (kmin cents (σ 1 0))) - (kmin (cents - (kmin cents (σ 1 0))) (σ 1 1))) - (kmin ((cents - (kmin cents (σ 1 0))) - (kmin (cents - (kmin cents (σ 1 0))) (σ 1 1))) (σ 1 2))) (σ 1 3))) ((σ 0 1) - (kmin ((cents - (kmin cents (σ 1 0))) - (kmin (cents - (kmin cents (σ 1 0))) (σ 1 1))) (σ 1 2))))) 5 (((((cents - (kmin cents (σ 1 0))) - (kmin (cents - (kmin cents (σ 1 0))) (σ 1 1))) - (kmin ((cents - (kmin cents (σ 1 0))) - (kmin (cents - (kmin cents (σ 1 0))) (σ 1 1))) (σ 1 2))) - (kmin (((cents - (kmin cents (σ 1 0))) - (kmin (cents - (kmin cents (σ 1 0))) (σ 1 1))) - (kmin ((cents - (kmin cents (σ 1 0))) - (kmin (cents - (kmin cents (σ 1 0))) (σ 1 1))) (σ 1 2))) (σ 1 3))) - (kmin ((((cents - (kmin cents (σ 1 0))) - (kmin (cents - (kmin cents (σ 1 0))) (σ 1 1))) - (kmin ((cents - (kmin cents (σ 1 0))) - (kmin (cents - (kmin cents (σ 1 0))) (σ 1 1))) (σ 1 2))) - (kmin (((cents - (kmin cents (σ 1 0))) - (kmin (cents - (kmin cents (σ 1 0))) (σ 1 1))) - (kmin ((cents - (kmin cents (σ 1 0))) - (kmin (cents - (kmin cents (σ 1 0))) (σ 1 1))) (σ 1 2))) (σ 1 3))) ((σ 0 1) - (kmin ((cents - (kmin cents (σ 1 0))) - (kmin (cents - (kmin cents (σ 1 0))) (σ 1 1))) (σ 1 2)))))) (σ 3) (σ 4)
abbrev wgN_splitPayment : List Cond := .code yN_splitPayment cN_splitPayment 4 none :: GW
abbrev rm_N_splitPayment : Room := { frames := 1, cells := 0, slots := 0, locals := 15 }
set_option maxRecDepth 100000 in
set_option maxHeartbeats 4000000 in
theorem c_N_splitPayment (l : Launch) (D : va_G) (G : Nat → ClassId) (a : Nat → Nat) (σ : KS) (cents : Int32) (sz : Nat)  : Met l yN_splitPayment wgN_splitPayment rm_N_splitPayment (kw_Pc D vwCl (gt G) [.ref (a 0), .int cents] (lcells G a σ) sz) (kw_v D vwCl (gt G) (lcells G a σ) sz (lcells G a (kN_splitPayment σ cents))) 0 0 (va_A (lcells G a σ) sz) := by
  refine Met.ofW (cc := cN_splitPayment) (maxL := 4) (ret := none) (by decide) rfl ?_
  intro p e s m args below meth c s₁ B hml hv
  have hx := B.exec
  have hb := B.bytes
  have hr := B.returns
  have hts := atoms_spec (ws := wgN_splitPayment) B.pre
  have hg : ∀ w ∈ GW, w.before args s = true := fun w h => hts w (List.mem_cons_of_mem _ h)
  have hown : s.vm.findClass RN = some m.cls := findClass_of_methodNamed B.named
  have hlocks := B.notSynchronized
  obtain ⟨hv, hsz, hP, hK, hD0⟩ := hv
  subst hsz
  have hD := hD0.self (sz := s.heap.size)
  have hS : va_S (va_A (lcells G a σ) s.heap.size) s.heap s.heap [] := va_S.rf
  refine kw_entry [.ref (a 0), .int cents] hv (Nat.le_of_ble_eq_true rfl) (fun ls hl => ?_)
  have hl : lv_has ls 4 [(0, .ref (a 0)), (1, .int cents)] := hl
  refine lv_iload_n hx hb dN_splitPayment_0 rfl (lv_at hl 1 rfl) ?_
  refine lv_istore_n hx hb dN_splitPayment_1 rfl hl (by decide) rfl (fun ls hl => ?_)
  have hl : lv_has ls 4 [(2, .int cents), (0, .ref (a 0)), (1, .int cents)] := hl
  refine lv_iconst (v := 0) hx hb dN_splitPayment_2 (by decide) ?_
  refine lv_istore_n hx hb dN_splitPayment_3 rfl hl (by decide) rfl (fun ls hl => ?_)
  have hl : lv_has ls 4 [(3, .int 0), (2, .int cents), (0, .ref (a 0)), (1, .int cents)] := hl
  refine lv_iload_n hx hb dN_splitPayment_4 rfl (lv_at hl 0 rfl) ?_
  refine lv_iconst (v := 4) hx hb dN_splitPayment_5 (by decide) ?_
  refine lv_icmp_ge (tgt := 40) hx hb dN_splitPayment_6 (by decide) (fun h => absurd h (by decide)) (fun _ => ?_)
  refine lv_aload_n hx hb dN_splitPayment_9 rfl (lv_at hl 2 rfl) ?_
  refine va_get (v := .ref (a 5)) hx hb hg hin_N hown hK hP 0 rfl rfl 4 (by decide) (hg _ gw_222) (fun _ h => h) rfl dN_splitPayment_10 ?_
  refine lv_iload_n hx hb dN_splitPayment_13 rfl (lv_at hl 0 rfl) ?_
  refine lv_iload_n hx hb dN_splitPayment_14 rfl (lv_at hl 1 rfl) ?_
  refine lv_aload_n hx hb dN_splitPayment_15 rfl (lv_at hl 2 rfl) ?_
  refine va_get (v := .ref (a 4)) hx hb hg hin_N hown hK hP 0 rfl rfl 3 (by decide) (hg _ gw_220) (fun _ h => h) rfl dN_splitPayment_16 ?_
  refine lv_iload_n hx hb dN_splitPayment_19 rfl (lv_at hl 0 rfl) ?_
  refine kw_iald (v := σ 1 0) (j := 0) hx hb hK hP 4 0 rfl rfl (by unfold vp_in; decide) rfl rfl dN_splitPayment_20 ?_
  refine kw_mmin hx hb (hml.trans hl.1.symm) hown (hg _ gw_297) (hg _ gw_212) (hg _ gw_13) (hg _ gw_213) (Nat.le_of_ble_eq_true rfl) (Nat.le_of_ble_eq_true rfl) (Nat.zero_le _) (Nat.zero_le _) dN_splitPayment_21 ?_
  refine kw_iast (w' := lc G a (σ 0 0) (σ 0 1) (σ 0 2) (σ 0 3) (σ 0 4) (σ 0 5) (σ 0 6) (σ 0 10) (σ 0 11) (σ 0 12) (σ 0 13) (σ 0 14) (σ 0 15) (σ 0 16) (σ 0 20) (σ 0 21) (σ 0 22) (σ 0 30) (σ 1) (upd (σ 2) 0 (kmin cents (σ 1 0))) (σ 3) (σ 4)) (j := 0) hx hb hK hP hD hS 5 0 rfl rfl (by unfold vp_in; decide) rfl dN_splitPayment_24 rfl (fun H locs hP hD hS => ?_)
  refine lv_iload_n hx hb dN_splitPayment_25 rfl (lv_at hl 1 rfl) ?_
  refine lv_aload_n hx hb dN_splitPayment_26 rfl (lv_at hl 2 rfl) ?_
  refine va_get (v := .ref (a 5)) hx hb hg hin_N hown hK hP 0 rfl rfl 4 (by decide) (hg _ gw_222) (fun _ h => h) rfl dN_splitPayment_27 ?_
  refine lv_iload_n hx hb dN_splitPayment_30 rfl (lv_at hl 0 rfl) ?_
  refine kw_iald (v := kmin cents (σ 1 0)) (j := 0) hx hb hK hP 5 0 rfl rfl (by unfold vp_in; decide) rfl rfl dN_splitPayment_31 ?_
  refine lv_isub hx hb dN_splitPayment_32 ?_
  refine lv_istore_n hx hb dN_splitPayment_33 rfl hl (by decide) rfl (fun ls hl => ?_)
  have hl : lv_has ls 4 [(2, .int (cents - (kmin cents (σ 1 0)))), (3, .int 0), (0, .ref (a 0)), (1, .int cents)] := hl
  refine lv_iinc (v := 1) hx hb dN_splitPayment_34 hl (k := 1) rfl (by first | rfl | decide) (by decide) rfl (fun ls hl => ?_)
  have hl : lv_has ls 4 [(3, .int 1), (2, .int (cents - (kmin cents (σ 1 0)))), (0, .ref (a 0)), (1, .int cents)] := hl
  refine lv_goto (tgt := 4) hx hb dN_splitPayment_37 (by decide) ?_
  refine lv_iload_n hx hb dN_splitPayment_4 rfl (lv_at hl 0 rfl) ?_
  refine lv_iconst (v := 4) hx hb dN_splitPayment_5 (by decide) ?_
  refine lv_icmp_ge (tgt := 40) hx hb dN_splitPayment_6 (by decide) (fun h => absurd h (by decide)) (fun _ => ?_)
  refine lv_aload_n hx hb dN_splitPayment_9 rfl (lv_at hl 2 rfl) ?_
  refine va_get (v := .ref (a 5)) hx hb hg hin_N hown hK hP 0 rfl rfl 4 (by decide) (hg _ gw_222) (fun _ h => h) rfl dN_splitPayment_10 ?_
  refine lv_iload_n hx hb dN_splitPayment_13 rfl (lv_at hl 0 rfl) ?_
  refine lv_iload_n hx hb dN_splitPayment_14 rfl (lv_at hl 1 rfl) ?_
  refine lv_aload_n hx hb dN_splitPayment_15 rfl (lv_at hl 2 rfl) ?_
  refine va_get (v := .ref (a 4)) hx hb hg hin_N hown hK hP 0 rfl rfl 3 (by decide) (hg _ gw_220) (fun _ h => h) rfl dN_splitPayment_16 ?_
  refine lv_iload_n hx hb dN_splitPayment_19 rfl (lv_at hl 0 rfl) ?_
  refine kw_iald (v := σ 1 1) (j := 1) hx hb hK hP 4 0 rfl rfl (by unfold vp_in; decide) rfl rfl dN_splitPayment_20 ?_
  refine kw_mmin hx hb (hml.trans hl.1.symm) hown (hg _ gw_297) (hg _ gw_212) (hg _ gw_13) (hg _ gw_213) (Nat.le_of_ble_eq_true rfl) (Nat.le_of_ble_eq_true rfl) (Nat.zero_le _) (Nat.zero_le _) dN_splitPayment_21 ?_
  refine kw_iast (w' := lc G a (σ 0 0) (σ 0 1) (σ 0 2) (σ 0 3) (σ 0 4) (σ 0 5) (σ 0 6) (σ 0 10) (σ 0 11) (σ 0 12) (σ 0 13) (σ 0 14) (σ 0 15) (σ 0 16) (σ 0 20) (σ 0 21) (σ 0 22) (σ 0 30) (σ 1) (upd (upd (σ 2) 0 (kmin cents (σ 1 0))) 1 (kmin (cents - (kmin cents (σ 1 0))) (σ 1 1))) (σ 3) (σ 4)) (j := 1) hx hb hK hP hD hS 5 0 rfl rfl (by unfold vp_in; decide) rfl dN_splitPayment_24 rfl (fun H locs hP hD hS => ?_)
  refine lv_iload_n hx hb dN_splitPayment_25 rfl (lv_at hl 1 rfl) ?_
  refine lv_aload_n hx hb dN_splitPayment_26 rfl (lv_at hl 2 rfl) ?_
  refine va_get (v := .ref (a 5)) hx hb hg hin_N hown hK hP 0 rfl rfl 4 (by decide) (hg _ gw_222) (fun _ h => h) rfl dN_splitPayment_27 ?_
  refine lv_iload_n hx hb dN_splitPayment_30 rfl (lv_at hl 0 rfl) ?_
  refine kw_iald (v := kmin (cents - (kmin cents (σ 1 0))) (σ 1 1)) (j := 1) hx hb hK hP 5 0 rfl rfl (by unfold vp_in; decide) rfl rfl dN_splitPayment_31 ?_
  refine lv_isub hx hb dN_splitPayment_32 ?_
  refine lv_istore_n hx hb dN_splitPayment_33 rfl hl (by decide) rfl (fun ls hl => ?_)
  have hl : lv_has ls 4 [(2, .int ((cents - (kmin cents (σ 1 0))) - (kmin (cents - (kmin cents (σ 1 0))) (σ 1 1)))), (3, .int 1), (0, .ref (a 0)), (1, .int cents)] := hl
  refine lv_iinc (v := 2) hx hb dN_splitPayment_34 hl (k := 1) rfl (by first | rfl | decide) (by decide) rfl (fun ls hl => ?_)
  have hl : lv_has ls 4 [(3, .int 2), (2, .int ((cents - (kmin cents (σ 1 0))) - (kmin (cents - (kmin cents (σ 1 0))) (σ 1 1)))), (0, .ref (a 0)), (1, .int cents)] := hl
  refine lv_goto (tgt := 4) hx hb dN_splitPayment_37 (by decide) ?_
  refine lv_iload_n hx hb dN_splitPayment_4 rfl (lv_at hl 0 rfl) ?_
  refine lv_iconst (v := 4) hx hb dN_splitPayment_5 (by decide) ?_
  refine lv_icmp_ge (tgt := 40) hx hb dN_splitPayment_6 (by decide) (fun h => absurd h (by decide)) (fun _ => ?_)
  refine lv_aload_n hx hb dN_splitPayment_9 rfl (lv_at hl 2 rfl) ?_
  refine va_get (v := .ref (a 5)) hx hb hg hin_N hown hK hP 0 rfl rfl 4 (by decide) (hg _ gw_222) (fun _ h => h) rfl dN_splitPayment_10 ?_
  refine lv_iload_n hx hb dN_splitPayment_13 rfl (lv_at hl 0 rfl) ?_
  refine lv_iload_n hx hb dN_splitPayment_14 rfl (lv_at hl 1 rfl) ?_
  refine lv_aload_n hx hb dN_splitPayment_15 rfl (lv_at hl 2 rfl) ?_
  refine va_get (v := .ref (a 4)) hx hb hg hin_N hown hK hP 0 rfl rfl 3 (by decide) (hg _ gw_220) (fun _ h => h) rfl dN_splitPayment_16 ?_
  refine lv_iload_n hx hb dN_splitPayment_19 rfl (lv_at hl 0 rfl) ?_
  refine kw_iald (v := σ 1 2) (j := 2) hx hb hK hP 4 0 rfl rfl (by unfold vp_in; decide) rfl rfl dN_splitPayment_20 ?_
  refine kw_mmin hx hb (hml.trans hl.1.symm) hown (hg _ gw_297) (hg _ gw_212) (hg _ gw_13) (hg _ gw_213) (Nat.le_of_ble_eq_true rfl) (Nat.le_of_ble_eq_true rfl) (Nat.zero_le _) (Nat.zero_le _) dN_splitPayment_21 ?_
  refine kw_iast (w' := lc G a (σ 0 0) (σ 0 1) (σ 0 2) (σ 0 3) (σ 0 4) (σ 0 5) (σ 0 6) (σ 0 10) (σ 0 11) (σ 0 12) (σ 0 13) (σ 0 14) (σ 0 15) (σ 0 16) (σ 0 20) (σ 0 21) (σ 0 22) (σ 0 30) (σ 1) (upd (upd (upd (σ 2) 0 (kmin cents (σ 1 0))) 1 (kmin (cents - (kmin cents (σ 1 0))) (σ 1 1))) 2 (kmin ((cents - (kmin cents (σ 1 0))) - (kmin (cents - (kmin cents (σ 1 0))) (σ 1 1))) (σ 1 2))) (σ 3) (σ 4)) (j := 2) hx hb hK hP hD hS 5 0 rfl rfl (by unfold vp_in; decide) rfl dN_splitPayment_24 rfl (fun H locs hP hD hS => ?_)
  refine lv_iload_n hx hb dN_splitPayment_25 rfl (lv_at hl 1 rfl) ?_
  refine lv_aload_n hx hb dN_splitPayment_26 rfl (lv_at hl 2 rfl) ?_
  refine va_get (v := .ref (a 5)) hx hb hg hin_N hown hK hP 0 rfl rfl 4 (by decide) (hg _ gw_222) (fun _ h => h) rfl dN_splitPayment_27 ?_
  refine lv_iload_n hx hb dN_splitPayment_30 rfl (lv_at hl 0 rfl) ?_
  refine kw_iald (v := kmin ((cents - (kmin cents (σ 1 0))) - (kmin (cents - (kmin cents (σ 1 0))) (σ 1 1))) (σ 1 2)) (j := 2) hx hb hK hP 5 0 rfl rfl (by unfold vp_in; decide) rfl rfl dN_splitPayment_31 ?_
  refine lv_isub hx hb dN_splitPayment_32 ?_
  refine lv_istore_n hx hb dN_splitPayment_33 rfl hl (by decide) rfl (fun ls hl => ?_)
  have hl : lv_has ls 4 [(2, .int (((cents - (kmin cents (σ 1 0))) - (kmin (cents - (kmin cents (σ 1 0))) (σ 1 1))) - (kmin ((cents - (kmin cents (σ 1 0))) - (kmin (cents - (kmin cents (σ 1 0))) (σ 1 1))) (σ 1 2)))), (3, .int 2), (0, .ref (a 0)), (1, .int cents)] := hl
  refine lv_iinc (v := 3) hx hb dN_splitPayment_34 hl (k := 1) rfl (by first | rfl | decide) (by decide) rfl (fun ls hl => ?_)
  have hl : lv_has ls 4 [(3, .int 3), (2, .int (((cents - (kmin cents (σ 1 0))) - (kmin (cents - (kmin cents (σ 1 0))) (σ 1 1))) - (kmin ((cents - (kmin cents (σ 1 0))) - (kmin (cents - (kmin cents (σ 1 0))) (σ 1 1))) (σ 1 2)))), (0, .ref (a 0)), (1, .int cents)] := hl
  refine lv_goto (tgt := 4) hx hb dN_splitPayment_37 (by decide) ?_
  refine lv_iload_n hx hb dN_splitPayment_4 rfl (lv_at hl 0 rfl) ?_
  refine lv_iconst (v := 4) hx hb dN_splitPayment_5 (by decide) ?_
  refine lv_icmp_ge (tgt := 40) hx hb dN_splitPayment_6 (by decide) (fun h => absurd h (by decide)) (fun _ => ?_)
  refine lv_aload_n hx hb dN_splitPayment_9 rfl (lv_at hl 2 rfl) ?_
  refine va_get (v := .ref (a 5)) hx hb hg hin_N hown hK hP 0 rfl rfl 4 (by decide) (hg _ gw_222) (fun _ h => h) rfl dN_splitPayment_10 ?_
  refine lv_iload_n hx hb dN_splitPayment_13 rfl (lv_at hl 0 rfl) ?_
  refine lv_iload_n hx hb dN_splitPayment_14 rfl (lv_at hl 1 rfl) ?_
  refine lv_aload_n hx hb dN_splitPayment_15 rfl (lv_at hl 2 rfl) ?_
  refine va_get (v := .ref (a 4)) hx hb hg hin_N hown hK hP 0 rfl rfl 3 (by decide) (hg _ gw_220) (fun _ h => h) rfl dN_splitPayment_16 ?_
  refine lv_iload_n hx hb dN_splitPayment_19 rfl (lv_at hl 0 rfl) ?_
  refine kw_iald (v := σ 1 3) (j := 3) hx hb hK hP 4 0 rfl rfl (by unfold vp_in; decide) rfl rfl dN_splitPayment_20 ?_
  refine kw_mmin hx hb (hml.trans hl.1.symm) hown (hg _ gw_297) (hg _ gw_212) (hg _ gw_13) (hg _ gw_213) (Nat.le_of_ble_eq_true rfl) (Nat.le_of_ble_eq_true rfl) (Nat.zero_le _) (Nat.zero_le _) dN_splitPayment_21 ?_
  refine kw_iast (w' := lc G a (σ 0 0) (σ 0 1) (σ 0 2) (σ 0 3) (σ 0 4) (σ 0 5) (σ 0 6) (σ 0 10) (σ 0 11) (σ 0 12) (σ 0 13) (σ 0 14) (σ 0 15) (σ 0 16) (σ 0 20) (σ 0 21) (σ 0 22) (σ 0 30) (σ 1) (upd (upd (upd (upd (σ 2) 0 (kmin cents (σ 1 0))) 1 (kmin (cents - (kmin cents (σ 1 0))) (σ 1 1))) 2 (kmin ((cents - (kmin cents (σ 1 0))) - (kmin (cents - (kmin cents (σ 1 0))) (σ 1 1))) (σ 1 2))) 3 (kmin (((cents - (kmin cents (σ 1 0))) - (kmin (cents - (kmin cents (σ 1 0))) (σ 1 1))) - (kmin ((cents - (kmin cents (σ 1 0))) - (kmin (cents - (kmin cents (σ 1 0))) (σ 1 1))) (σ 1 2))) (σ 1 3))) (σ 3) (σ 4)) (j := 3) hx hb hK hP hD hS 5 0 rfl rfl (by unfold vp_in; decide) rfl dN_splitPayment_24 rfl (fun H locs hP hD hS => ?_)
  refine lv_iload_n hx hb dN_splitPayment_25 rfl (lv_at hl 1 rfl) ?_
  refine lv_aload_n hx hb dN_splitPayment_26 rfl (lv_at hl 2 rfl) ?_
  refine va_get (v := .ref (a 5)) hx hb hg hin_N hown hK hP 0 rfl rfl 4 (by decide) (hg _ gw_222) (fun _ h => h) rfl dN_splitPayment_27 ?_
  refine lv_iload_n hx hb dN_splitPayment_30 rfl (lv_at hl 0 rfl) ?_
  refine kw_iald (v := kmin (((cents - (kmin cents (σ 1 0))) - (kmin (cents - (kmin cents (σ 1 0))) (σ 1 1))) - (kmin ((cents - (kmin cents (σ 1 0))) - (kmin (cents - (kmin cents (σ 1 0))) (σ 1 1))) (σ 1 2))) (σ 1 3)) (j := 3) hx hb hK hP 5 0 rfl rfl (by unfold vp_in; decide) rfl rfl dN_splitPayment_31 ?_
  refine lv_isub hx hb dN_splitPayment_32 ?_
  refine lv_istore_n hx hb dN_splitPayment_33 rfl hl (by decide) rfl (fun ls hl => ?_)
  have hl : lv_has ls 4 [(2, .int ((((cents - (kmin cents (σ 1 0))) - (kmin (cents - (kmin cents (σ 1 0))) (σ 1 1))) - (kmin ((cents - (kmin cents (σ 1 0))) - (kmin (cents - (kmin cents (σ 1 0))) (σ 1 1))) (σ 1 2))) - (kmin (((cents - (kmin cents (σ 1 0))) - (kmin (cents - (kmin cents (σ 1 0))) (σ 1 1))) - (kmin ((cents - (kmin cents (σ 1 0))) - (kmin (cents - (kmin cents (σ 1 0))) (σ 1 1))) (σ 1 2))) (σ 1 3)))), (3, .int 3), (0, .ref (a 0)), (1, .int cents)] := hl
  refine lv_iinc (v := 4) hx hb dN_splitPayment_34 hl (k := 1) rfl (by first | rfl | decide) (by decide) rfl (fun ls hl => ?_)
  have hl : lv_has ls 4 [(3, .int 4), (2, .int ((((cents - (kmin cents (σ 1 0))) - (kmin (cents - (kmin cents (σ 1 0))) (σ 1 1))) - (kmin ((cents - (kmin cents (σ 1 0))) - (kmin (cents - (kmin cents (σ 1 0))) (σ 1 1))) (σ 1 2))) - (kmin (((cents - (kmin cents (σ 1 0))) - (kmin (cents - (kmin cents (σ 1 0))) (σ 1 1))) - (kmin ((cents - (kmin cents (σ 1 0))) - (kmin (cents - (kmin cents (σ 1 0))) (σ 1 1))) (σ 1 2))) (σ 1 3)))), (0, .ref (a 0)), (1, .int cents)] := hl
  refine lv_goto (tgt := 4) hx hb dN_splitPayment_37 (by decide) ?_
  refine lv_iload_n hx hb dN_splitPayment_4 rfl (lv_at hl 0 rfl) ?_
  refine lv_iconst (v := 4) hx hb dN_splitPayment_5 (by decide) ?_
  refine lv_icmp_ge (tgt := 40) hx hb dN_splitPayment_6 (by decide) (fun _ => ?_) (fun h => absurd h (by decide))
  refine lv_aload_n hx hb dN_splitPayment_40 rfl (lv_at hl 2 rfl) ?_
  refine va_get (v := .ref (a 5)) hx hb hg hin_N hown hK hP 0 rfl rfl 4 (by decide) (hg _ gw_222) (fun _ h => h) rfl dN_splitPayment_41 ?_
  refine lv_iconst (v := 4) hx hb dN_splitPayment_44 (by decide) ?_
  refine lv_iload_n hx hb dN_splitPayment_45 rfl (lv_at hl 1 rfl) ?_
  refine lv_aload_n hx hb dN_splitPayment_46 rfl (lv_at hl 2 rfl) ?_
  refine va_get (v := .int (σ 0 1)) hx hb hg hin_N hown hK hP 0 rfl rfl 6 (by decide) (hg _ gw_226) (fun _ h => h) rfl dN_splitPayment_47 ?_
  refine lv_aload_n hx hb dN_splitPayment_50 rfl (lv_at hl 2 rfl) ?_
  refine va_get (v := .ref (a 5)) hx hb hg hin_N hown hK hP 0 rfl rfl 4 (by decide) (hg _ gw_222) (fun _ h => h) rfl dN_splitPayment_51 ?_
  refine lv_iconst (v := 2) hx hb dN_splitPayment_54 (by decide) ?_
  refine kw_iald (v := kmin ((cents - (kmin cents (σ 1 0))) - (kmin (cents - (kmin cents (σ 1 0))) (σ 1 1))) (σ 1 2)) (j := 2) hx hb hK hP 5 0 rfl rfl (by unfold vp_in; decide) rfl rfl dN_splitPayment_55 ?_
  refine lv_isub hx hb dN_splitPayment_56 ?_
  refine kw_mmin hx hb (hml.trans hl.1.symm) hown (hg _ gw_297) (hg _ gw_212) (hg _ gw_13) (hg _ gw_213) (Nat.le_of_ble_eq_true rfl) (Nat.le_of_ble_eq_true rfl) (Nat.zero_le _) (Nat.zero_le _) dN_splitPayment_57 ?_
  refine kw_iast (w' := lc G a (σ 0 0) (σ 0 1) (σ 0 2) (σ 0 3) (σ 0 4) (σ 0 5) (σ 0 6) (σ 0 10) (σ 0 11) (σ 0 12) (σ 0 13) (σ 0 14) (σ 0 15) (σ 0 16) (σ 0 20) (σ 0 21) (σ 0 22) (σ 0 30) (σ 1) (upd (upd (upd (upd (upd (σ 2) 0 (kmin cents (σ 1 0))) 1 (kmin (cents - (kmin cents (σ 1 0))) (σ 1 1))) 2 (kmin ((cents - (kmin cents (σ 1 0))) - (kmin (cents - (kmin cents (σ 1 0))) (σ 1 1))) (σ 1 2))) 3 (kmin (((cents - (kmin cents (σ 1 0))) - (kmin (cents - (kmin cents (σ 1 0))) (σ 1 1))) - (kmin ((cents - (kmin cents (σ 1 0))) - (kmin (cents - (kmin cents (σ 1 0))) (σ 1 1))) (σ 1 2))) (σ 1 3))) 4 (kmin ((((cents - (kmin cents (σ 1 0))) - (kmin (cents - (kmin cents (σ 1 0))) (σ 1 1))) - (kmin ((cents - (kmin cents (σ 1 0))) - (kmin (cents - (kmin cents (σ 1 0))) (σ 1 1))) (σ 1 2))) - (kmin (((cents - (kmin cents (σ 1 0))) - (kmin (cents - (kmin cents (σ 1 0))) (σ 1 1))) - (kmin ((cents - (kmin cents (σ 1 0))) - (kmin (cents - (kmin cents (σ 1 0))) (σ 1 1))) (σ 1 2))) (σ 1 3))) ((σ 0 1) - (kmin ((cents - (kmin cents (σ 1 0))) - (kmin (cents - (kmin cents (σ 1 0))) (σ 1 1))) (σ 1 2))))) (σ 3) (σ 4)) (j := 4) hx hb hK hP hD hS 5 0 rfl rfl (by unfold vp_in; decide) rfl dN_splitPayment_60 rfl (fun H locs hP hD hS => ?_)
  refine lv_aload_n hx hb dN_splitPayment_61 rfl (lv_at hl 2 rfl) ?_
  refine va_get (v := .ref (a 5)) hx hb hg hin_N hown hK hP 0 rfl rfl 4 (by decide) (hg _ gw_222) (fun _ h => h) rfl dN_splitPayment_62 ?_
  refine lv_iconst (v := 5) hx hb dN_splitPayment_65 (by decide) ?_
  refine lv_iload_n hx hb dN_splitPayment_66 rfl (lv_at hl 1 rfl) ?_
  refine lv_aload_n hx hb dN_splitPayment_67 rfl (lv_at hl 2 rfl) ?_
  refine va_get (v := .ref (a 5)) hx hb hg hin_N hown hK hP 0 rfl rfl 4 (by decide) (hg _ gw_222) (fun _ h => h) rfl dN_splitPayment_68 ?_
  refine lv_iconst (v := 4) hx hb dN_splitPayment_71 (by decide) ?_
  refine kw_iald (v := kmin ((((cents - (kmin cents (σ 1 0))) - (kmin (cents - (kmin cents (σ 1 0))) (σ 1 1))) - (kmin ((cents - (kmin cents (σ 1 0))) - (kmin (cents - (kmin cents (σ 1 0))) (σ 1 1))) (σ 1 2))) - (kmin (((cents - (kmin cents (σ 1 0))) - (kmin (cents - (kmin cents (σ 1 0))) (σ 1 1))) - (kmin ((cents - (kmin cents (σ 1 0))) - (kmin (cents - (kmin cents (σ 1 0))) (σ 1 1))) (σ 1 2))) (σ 1 3))) ((σ 0 1) - (kmin ((cents - (kmin cents (σ 1 0))) - (kmin (cents - (kmin cents (σ 1 0))) (σ 1 1))) (σ 1 2)))) (j := 4) hx hb hK hP 5 0 rfl rfl (by unfold vp_in; decide) rfl rfl dN_splitPayment_72 ?_
  refine lv_isub hx hb dN_splitPayment_73 ?_
  refine kw_iast (w' := lc G a (σ 0 0) (σ 0 1) (σ 0 2) (σ 0 3) (σ 0 4) (σ 0 5) (σ 0 6) (σ 0 10) (σ 0 11) (σ 0 12) (σ 0 13) (σ 0 14) (σ 0 15) (σ 0 16) (σ 0 20) (σ 0 21) (σ 0 22) (σ 0 30) (σ 1) (upd (upd (upd (upd (upd (upd (σ 2) 0 (kmin cents (σ 1 0))) 1 (kmin (cents - (kmin cents (σ 1 0))) (σ 1 1))) 2 (kmin ((cents - (kmin cents (σ 1 0))) - (kmin (cents - (kmin cents (σ 1 0))) (σ 1 1))) (σ 1 2))) 3 (kmin (((cents - (kmin cents (σ 1 0))) - (kmin (cents - (kmin cents (σ 1 0))) (σ 1 1))) - (kmin ((cents - (kmin cents (σ 1 0))) - (kmin (cents - (kmin cents (σ 1 0))) (σ 1 1))) (σ 1 2))) (σ 1 3))) 4 (kmin ((((cents - (kmin cents (σ 1 0))) - (kmin (cents - (kmin cents (σ 1 0))) (σ 1 1))) - (kmin ((cents - (kmin cents (σ 1 0))) - (kmin (cents - (kmin cents (σ 1 0))) (σ 1 1))) (σ 1 2))) - (kmin (((cents - (kmin cents (σ 1 0))) - (kmin (cents - (kmin cents (σ 1 0))) (σ 1 1))) - (kmin ((cents - (kmin cents (σ 1 0))) - (kmin (cents - (kmin cents (σ 1 0))) (σ 1 1))) (σ 1 2))) (σ 1 3))) ((σ 0 1) - (kmin ((cents - (kmin cents (σ 1 0))) - (kmin (cents - (kmin cents (σ 1 0))) (σ 1 1))) (σ 1 2))))) 5 (((((cents - (kmin cents (σ 1 0))) - (kmin (cents - (kmin cents (σ 1 0))) (σ 1 1))) - (kmin ((cents - (kmin cents (σ 1 0))) - (kmin (cents - (kmin cents (σ 1 0))) (σ 1 1))) (σ 1 2))) - (kmin (((cents - (kmin cents (σ 1 0))) - (kmin (cents - (kmin cents (σ 1 0))) (σ 1 1))) - (kmin ((cents - (kmin cents (σ 1 0))) - (kmin (cents - (kmin cents (σ 1 0))) (σ 1 1))) (σ 1 2))) (σ 1 3))) - (kmin ((((cents - (kmin cents (σ 1 0))) - (kmin (cents - (kmin cents (σ 1 0))) (σ 1 1))) - (kmin ((cents - (kmin cents (σ 1 0))) - (kmin (cents - (kmin cents (σ 1 0))) (σ 1 1))) (σ 1 2))) - (kmin (((cents - (kmin cents (σ 1 0))) - (kmin (cents - (kmin cents (σ 1 0))) (σ 1 1))) - (kmin ((cents - (kmin cents (σ 1 0))) - (kmin (cents - (kmin cents (σ 1 0))) (σ 1 1))) (σ 1 2))) (σ 1 3))) ((σ 0 1) - (kmin ((cents - (kmin cents (σ 1 0))) - (kmin (cents - (kmin cents (σ 1 0))) (σ 1 1))) (σ 1 2)))))) (σ 3) (σ 4)) (j := 5) hx hb hK hP hD hS 5 0 rfl rfl (by unfold vp_in; decide) rfl dN_splitPayment_74 rfl (fun H locs hP hD hS => ?_)
  have hk9 : kN_splitPayment σ cents = mkL (σ 0 0) (σ 0 1) (σ 0 2) (σ 0 3) (σ 0 4) (σ 0 5) (σ 0 6) (σ 0 10) (σ 0 11) (σ 0 12) (σ 0 13) (σ 0 14) (σ 0 15) (σ 0 16) (σ 0 20) (σ 0 21) (σ 0 22) (σ 0 30) (σ 1) (upd (upd (upd (upd (upd (upd (σ 2) 0 (kmin cents (σ 1 0))) 1 (kmin (cents - (kmin cents (σ 1 0))) (σ 1 1))) 2 (kmin ((cents - (kmin cents (σ 1 0))) - (kmin (cents - (kmin cents (σ 1 0))) (σ 1 1))) (σ 1 2))) 3 (kmin (((cents - (kmin cents (σ 1 0))) - (kmin (cents - (kmin cents (σ 1 0))) (σ 1 1))) - (kmin ((cents - (kmin cents (σ 1 0))) - (kmin (cents - (kmin cents (σ 1 0))) (σ 1 1))) (σ 1 2))) (σ 1 3))) 4 (kmin ((((cents - (kmin cents (σ 1 0))) - (kmin (cents - (kmin cents (σ 1 0))) (σ 1 1))) - (kmin ((cents - (kmin cents (σ 1 0))) - (kmin (cents - (kmin cents (σ 1 0))) (σ 1 1))) (σ 1 2))) - (kmin (((cents - (kmin cents (σ 1 0))) - (kmin (cents - (kmin cents (σ 1 0))) (σ 1 1))) - (kmin ((cents - (kmin cents (σ 1 0))) - (kmin (cents - (kmin cents (σ 1 0))) (σ 1 1))) (σ 1 2))) (σ 1 3))) ((σ 0 1) - (kmin ((cents - (kmin cents (σ 1 0))) - (kmin (cents - (kmin cents (σ 1 0))) (σ 1 1))) (σ 1 2))))) 5 (((((cents - (kmin cents (σ 1 0))) - (kmin (cents - (kmin cents (σ 1 0))) (σ 1 1))) - (kmin ((cents - (kmin cents (σ 1 0))) - (kmin (cents - (kmin cents (σ 1 0))) (σ 1 1))) (σ 1 2))) - (kmin (((cents - (kmin cents (σ 1 0))) - (kmin (cents - (kmin cents (σ 1 0))) (σ 1 1))) - (kmin ((cents - (kmin cents (σ 1 0))) - (kmin (cents - (kmin cents (σ 1 0))) (σ 1 1))) (σ 1 2))) (σ 1 3))) - (kmin ((((cents - (kmin cents (σ 1 0))) - (kmin (cents - (kmin cents (σ 1 0))) (σ 1 1))) - (kmin ((cents - (kmin cents (σ 1 0))) - (kmin (cents - (kmin cents (σ 1 0))) (σ 1 1))) (σ 1 2))) - (kmin (((cents - (kmin cents (σ 1 0))) - (kmin (cents - (kmin cents (σ 1 0))) (σ 1 1))) - (kmin ((cents - (kmin cents (σ 1 0))) - (kmin (cents - (kmin cents (σ 1 0))) (σ 1 1))) (σ 1 2))) (σ 1 3))) ((σ 0 1) - (kmin ((cents - (kmin cents (σ 1 0))) - (kmin (cents - (kmin cents (σ 1 0))) (σ 1 1))) (σ 1 2)))))) (σ 3) (σ 4) := by rfl
  exact kw_vret hx hb hr hlocks hK hP hD hS (kw_fin1 (f := lcells G a) (S := mkL (σ 0 0) (σ 0 1) (σ 0 2) (σ 0 3) (σ 0 4) (σ 0 5) (σ 0 6) (σ 0 10) (σ 0 11) (σ 0 12) (σ 0 13) (σ 0 14) (σ 0 15) (σ 0 16) (σ 0 20) (σ 0 21) (σ 0 22) (σ 0 30) (σ 1) (upd (upd (upd (upd (upd (upd (σ 2) 0 (kmin cents (σ 1 0))) 1 (kmin (cents - (kmin cents (σ 1 0))) (σ 1 1))) 2 (kmin ((cents - (kmin cents (σ 1 0))) - (kmin (cents - (kmin cents (σ 1 0))) (σ 1 1))) (σ 1 2))) 3 (kmin (((cents - (kmin cents (σ 1 0))) - (kmin (cents - (kmin cents (σ 1 0))) (σ 1 1))) - (kmin ((cents - (kmin cents (σ 1 0))) - (kmin (cents - (kmin cents (σ 1 0))) (σ 1 1))) (σ 1 2))) (σ 1 3))) 4 (kmin ((((cents - (kmin cents (σ 1 0))) - (kmin (cents - (kmin cents (σ 1 0))) (σ 1 1))) - (kmin ((cents - (kmin cents (σ 1 0))) - (kmin (cents - (kmin cents (σ 1 0))) (σ 1 1))) (σ 1 2))) - (kmin (((cents - (kmin cents (σ 1 0))) - (kmin (cents - (kmin cents (σ 1 0))) (σ 1 1))) - (kmin ((cents - (kmin cents (σ 1 0))) - (kmin (cents - (kmin cents (σ 1 0))) (σ 1 1))) (σ 1 2))) (σ 1 3))) ((σ 0 1) - (kmin ((cents - (kmin cents (σ 1 0))) - (kmin (cents - (kmin cents (σ 1 0))) (σ 1 1))) (σ 1 2))))) 5 (((((cents - (kmin cents (σ 1 0))) - (kmin (cents - (kmin cents (σ 1 0))) (σ 1 1))) - (kmin ((cents - (kmin cents (σ 1 0))) - (kmin (cents - (kmin cents (σ 1 0))) (σ 1 1))) (σ 1 2))) - (kmin (((cents - (kmin cents (σ 1 0))) - (kmin (cents - (kmin cents (σ 1 0))) (σ 1 1))) - (kmin ((cents - (kmin cents (σ 1 0))) - (kmin (cents - (kmin cents (σ 1 0))) (σ 1 1))) (σ 1 2))) (σ 1 3))) - (kmin ((((cents - (kmin cents (σ 1 0))) - (kmin (cents - (kmin cents (σ 1 0))) (σ 1 1))) - (kmin ((cents - (kmin cents (σ 1 0))) - (kmin (cents - (kmin cents (σ 1 0))) (σ 1 1))) (σ 1 2))) - (kmin (((cents - (kmin cents (σ 1 0))) - (kmin (cents - (kmin cents (σ 1 0))) (σ 1 1))) - (kmin ((cents - (kmin cents (σ 1 0))) - (kmin (cents - (kmin cents (σ 1 0))) (σ 1 1))) (σ 1 2))) (σ 1 3))) ((σ 0 1) - (kmin ((cents - (kmin cents (σ 1 0))) - (kmin (cents - (kmin cents (σ 1 0))) (σ 1 1))) (σ 1 2)))))) (σ 3) (σ 4)) rfl hk9) dN_splitPayment_75
def kN_takePayment (σ : KS) (cents : Int32) (today : Int32) : Int32 × KS := if (((kN_splitPayment σ cents) 2 2) + ((kN_splitPayment σ cents) 2 4)) ≤ (0 : Int32) then (if ((kN_splitPayment σ cents) 2 4) ≤ (0 : Int32) then ((kN_splitPayment σ cents) 2 5, mkL 1 (((kN_splitPayment σ cents) 0 1) - (((kN_splitPayment σ cents) 2 2) + ((kN_splitPayment σ cents) 2 4))) ((kN_splitPayment σ cents) 0 2) ((kN_splitPayment σ cents) 0 3) ((kN_splitPayment σ cents) 0 4) ((kN_splitPayment σ cents) 0 5) ((kN_splitPayment σ cents) 0 6) ((kN_splitPayment σ cents) 0 10) ((kN_splitPayment σ cents) 0 11) ((kN_splitPayment σ cents) 0 12) ((kN_splitPayment σ cents) 0 13) ((kN_splitPayment σ cents) 0 14) ((kN_splitPayment σ cents) 0 15) ((kN_splitPayment σ cents) 0 16) (((kN_splitPayment σ cents) 0 20) + ((kN_splitPayment σ cents) 2 3)) ((kN_splitPayment σ cents) 0 21) ((kN_splitPayment σ cents) 0 22) ((kN_splitPayment σ cents) 0 30) (upd (upd (upd (upd ((kN_splitPayment σ cents) 1) 0 (((kN_splitPayment σ cents) 1 0) - ((kN_splitPayment σ cents) 2 0))) 1 (((kN_splitPayment σ cents) 1 1) - ((kN_splitPayment σ cents) 2 1))) 2 (((kN_splitPayment σ cents) 1 2) - ((kN_splitPayment σ cents) 2 2))) 3 (((kN_splitPayment σ cents) 1 3) - ((kN_splitPayment σ cents) 2 3))) ((kN_splitPayment σ cents) 2) ((kN_splitPayment σ cents) 3) ((kN_splitPayment σ cents) 4)) else (if ((kN_splitPayment σ cents) 0 14) = (0 : Int32) then ((kN_reckonLevel (mkL 1 (((kN_splitPayment σ cents) 0 1) - (((kN_splitPayment σ cents) 2 2) + ((kN_splitPayment σ cents) 2 4))) ((kN_splitPayment σ cents) 0 2) ((kN_splitPayment σ cents) 0 3) ((kN_splitPayment σ cents) 0 4) ((kN_splitPayment σ cents) 0 5) ((kN_splitPayment σ cents) 0 6) ((kN_splitPayment σ cents) 0 10) ((kN_splitPayment σ cents) 0 11) ((kN_splitPayment σ cents) 0 12) ((kN_splitPayment σ cents) 0 13) ((kN_splitPayment σ cents) 0 14) ((kN_splitPayment σ cents) 0 15) ((kN_splitPayment σ cents) 0 16) (((kN_splitPayment σ cents) 0 20) + ((kN_splitPayment σ cents) 2 3)) ((kN_splitPayment σ cents) 0 21) ((kN_splitPayment σ cents) 0 22) ((kN_splitPayment σ cents) 0 30) (upd (upd (upd (upd ((kN_splitPayment σ cents) 1) 0 (((kN_splitPayment σ cents) 1 0) - ((kN_splitPayment σ cents) 2 0))) 1 (((kN_splitPayment σ cents) 1 1) - ((kN_splitPayment σ cents) 2 1))) 2 (((kN_splitPayment σ cents) 1 2) - ((kN_splitPayment σ cents) 2 2))) 3 (((kN_splitPayment σ cents) 1 3) - ((kN_splitPayment σ cents) 2 3))) ((kN_splitPayment σ cents) 2) ((kN_splitPayment σ cents) 3) ((kN_splitPayment σ cents) 4)) today) 2 5, (kN_reckonLevel (mkL 1 (((kN_splitPayment σ cents) 0 1) - (((kN_splitPayment σ cents) 2 2) + ((kN_splitPayment σ cents) 2 4))) ((kN_splitPayment σ cents) 0 2) ((kN_splitPayment σ cents) 0 3) ((kN_splitPayment σ cents) 0 4) ((kN_splitPayment σ cents) 0 5) ((kN_splitPayment σ cents) 0 6) ((kN_splitPayment σ cents) 0 10) ((kN_splitPayment σ cents) 0 11) ((kN_splitPayment σ cents) 0 12) ((kN_splitPayment σ cents) 0 13) ((kN_splitPayment σ cents) 0 14) ((kN_splitPayment σ cents) 0 15) ((kN_splitPayment σ cents) 0 16) (((kN_splitPayment σ cents) 0 20) + ((kN_splitPayment σ cents) 2 3)) ((kN_splitPayment σ cents) 0 21) ((kN_splitPayment σ cents) 0 22) ((kN_splitPayment σ cents) 0 30) (upd (upd (upd (upd ((kN_splitPayment σ cents) 1) 0 (((kN_splitPayment σ cents) 1 0) - ((kN_splitPayment σ cents) 2 0))) 1 (((kN_splitPayment σ cents) 1 1) - ((kN_splitPayment σ cents) 2 1))) 2 (((kN_splitPayment σ cents) 1 2) - ((kN_splitPayment σ cents) 2 2))) 3 (((kN_splitPayment σ cents) 1 3) - ((kN_splitPayment σ cents) 2 3))) ((kN_splitPayment σ cents) 2) ((kN_splitPayment σ cents) 3) ((kN_splitPayment σ cents) 4)) today)) else ((kN_splitPayment σ cents) 2 5, mkL 1 (((kN_splitPayment σ cents) 0 1) - (((kN_splitPayment σ cents) 2 2) + ((kN_splitPayment σ cents) 2 4))) ((kN_splitPayment σ cents) 0 2) ((kN_splitPayment σ cents) 0 3) ((kN_splitPayment σ cents) 0 4) ((kN_splitPayment σ cents) 0 5) ((kN_splitPayment σ cents) 0 6) ((kN_splitPayment σ cents) 0 10) ((kN_splitPayment σ cents) 0 11) ((kN_splitPayment σ cents) 0 12) ((kN_splitPayment σ cents) 0 13) ((kN_splitPayment σ cents) 0 14) ((kN_splitPayment σ cents) 0 15) ((kN_splitPayment σ cents) 0 16) (((kN_splitPayment σ cents) 0 20) + ((kN_splitPayment σ cents) 2 3)) ((kN_splitPayment σ cents) 0 21) ((kN_splitPayment σ cents) 0 22) ((kN_splitPayment σ cents) 0 30) (upd (upd (upd (upd ((kN_splitPayment σ cents) 1) 0 (((kN_splitPayment σ cents) 1 0) - ((kN_splitPayment σ cents) 2 0))) 1 (((kN_splitPayment σ cents) 1 1) - ((kN_splitPayment σ cents) 2 1))) 2 (((kN_splitPayment σ cents) 1 2) - ((kN_splitPayment σ cents) 2 2))) 3 (((kN_splitPayment σ cents) 1 3) - ((kN_splitPayment σ cents) 2 3))) ((kN_splitPayment σ cents) 2) ((kN_splitPayment σ cents) 3) ((kN_splitPayment σ cents) 4)))) else (if ((kN_accrue (kN_splitPayment σ cents) today) 2 4) ≤ (0 : Int32) then ((kN_accrue (kN_splitPayment σ cents) today) 2 5, mkL 1 (((kN_accrue (kN_splitPayment σ cents) today) 0 1) - (((kN_splitPayment σ cents) 2 2) + ((kN_splitPayment σ cents) 2 4))) ((kN_accrue (kN_splitPayment σ cents) today) 0 2) ((kN_accrue (kN_splitPayment σ cents) today) 0 3) ((kN_accrue (kN_splitPayment σ cents) today) 0 4) ((kN_accrue (kN_splitPayment σ cents) today) 0 5) ((kN_accrue (kN_splitPayment σ cents) today) 0 6) ((kN_accrue (kN_splitPayment σ cents) today) 0 10) ((kN_accrue (kN_splitPayment σ cents) today) 0 11) ((kN_accrue (kN_splitPayment σ cents) today) 0 12) ((kN_accrue (kN_splitPayment σ cents) today) 0 13) ((kN_accrue (kN_splitPayment σ cents) today) 0 14) ((kN_accrue (kN_splitPayment σ cents) today) 0 15) ((kN_accrue (kN_splitPayment σ cents) today) 0 16) (((kN_accrue (kN_splitPayment σ cents) today) 0 20) + ((kN_accrue (kN_splitPayment σ cents) today) 2 3)) ((kN_accrue (kN_splitPayment σ cents) today) 0 21) ((kN_accrue (kN_splitPayment σ cents) today) 0 22) ((kN_accrue (kN_splitPayment σ cents) today) 0 30) (upd (upd (upd (upd ((kN_accrue (kN_splitPayment σ cents) today) 1) 0 (((kN_accrue (kN_splitPayment σ cents) today) 1 0) - ((kN_accrue (kN_splitPayment σ cents) today) 2 0))) 1 (((kN_accrue (kN_splitPayment σ cents) today) 1 1) - ((kN_accrue (kN_splitPayment σ cents) today) 2 1))) 2 (((kN_accrue (kN_splitPayment σ cents) today) 1 2) - ((kN_accrue (kN_splitPayment σ cents) today) 2 2))) 3 (((kN_accrue (kN_splitPayment σ cents) today) 1 3) - ((kN_accrue (kN_splitPayment σ cents) today) 2 3))) ((kN_accrue (kN_splitPayment σ cents) today) 2) ((kN_accrue (kN_splitPayment σ cents) today) 3) ((kN_accrue (kN_splitPayment σ cents) today) 4)) else (if ((kN_accrue (kN_splitPayment σ cents) today) 0 14) = (0 : Int32) then ((kN_reckonLevel (mkL 1 (((kN_accrue (kN_splitPayment σ cents) today) 0 1) - (((kN_splitPayment σ cents) 2 2) + ((kN_splitPayment σ cents) 2 4))) ((kN_accrue (kN_splitPayment σ cents) today) 0 2) ((kN_accrue (kN_splitPayment σ cents) today) 0 3) ((kN_accrue (kN_splitPayment σ cents) today) 0 4) ((kN_accrue (kN_splitPayment σ cents) today) 0 5) ((kN_accrue (kN_splitPayment σ cents) today) 0 6) ((kN_accrue (kN_splitPayment σ cents) today) 0 10) ((kN_accrue (kN_splitPayment σ cents) today) 0 11) ((kN_accrue (kN_splitPayment σ cents) today) 0 12) ((kN_accrue (kN_splitPayment σ cents) today) 0 13) ((kN_accrue (kN_splitPayment σ cents) today) 0 14) ((kN_accrue (kN_splitPayment σ cents) today) 0 15) ((kN_accrue (kN_splitPayment σ cents) today) 0 16) (((kN_accrue (kN_splitPayment σ cents) today) 0 20) + ((kN_accrue (kN_splitPayment σ cents) today) 2 3)) ((kN_accrue (kN_splitPayment σ cents) today) 0 21) ((kN_accrue (kN_splitPayment σ cents) today) 0 22) ((kN_accrue (kN_splitPayment σ cents) today) 0 30) (upd (upd (upd (upd ((kN_accrue (kN_splitPayment σ cents) today) 1) 0 (((kN_accrue (kN_splitPayment σ cents) today) 1 0) - ((kN_accrue (kN_splitPayment σ cents) today) 2 0))) 1 (((kN_accrue (kN_splitPayment σ cents) today) 1 1) - ((kN_accrue (kN_splitPayment σ cents) today) 2 1))) 2 (((kN_accrue (kN_splitPayment σ cents) today) 1 2) - ((kN_accrue (kN_splitPayment σ cents) today) 2 2))) 3 (((kN_accrue (kN_splitPayment σ cents) today) 1 3) - ((kN_accrue (kN_splitPayment σ cents) today) 2 3))) ((kN_accrue (kN_splitPayment σ cents) today) 2) ((kN_accrue (kN_splitPayment σ cents) today) 3) ((kN_accrue (kN_splitPayment σ cents) today) 4)) today) 2 5, (kN_reckonLevel (mkL 1 (((kN_accrue (kN_splitPayment σ cents) today) 0 1) - (((kN_splitPayment σ cents) 2 2) + ((kN_splitPayment σ cents) 2 4))) ((kN_accrue (kN_splitPayment σ cents) today) 0 2) ((kN_accrue (kN_splitPayment σ cents) today) 0 3) ((kN_accrue (kN_splitPayment σ cents) today) 0 4) ((kN_accrue (kN_splitPayment σ cents) today) 0 5) ((kN_accrue (kN_splitPayment σ cents) today) 0 6) ((kN_accrue (kN_splitPayment σ cents) today) 0 10) ((kN_accrue (kN_splitPayment σ cents) today) 0 11) ((kN_accrue (kN_splitPayment σ cents) today) 0 12) ((kN_accrue (kN_splitPayment σ cents) today) 0 13) ((kN_accrue (kN_splitPayment σ cents) today) 0 14) ((kN_accrue (kN_splitPayment σ cents) today) 0 15) ((kN_accrue (kN_splitPayment σ cents) today) 0 16) (((kN_accrue (kN_splitPayment σ cents) today) 0 20) + ((kN_accrue (kN_splitPayment σ cents) today) 2 3)) ((kN_accrue (kN_splitPayment σ cents) today) 0 21) ((kN_accrue (kN_splitPayment σ cents) today) 0 22) ((kN_accrue (kN_splitPayment σ cents) today) 0 30) (upd (upd (upd (upd ((kN_accrue (kN_splitPayment σ cents) today) 1) 0 (((kN_accrue (kN_splitPayment σ cents) today) 1 0) - ((kN_accrue (kN_splitPayment σ cents) today) 2 0))) 1 (((kN_accrue (kN_splitPayment σ cents) today) 1 1) - ((kN_accrue (kN_splitPayment σ cents) today) 2 1))) 2 (((kN_accrue (kN_splitPayment σ cents) today) 1 2) - ((kN_accrue (kN_splitPayment σ cents) today) 2 2))) 3 (((kN_accrue (kN_splitPayment σ cents) today) 1 3) - ((kN_accrue (kN_splitPayment σ cents) today) 2 3))) ((kN_accrue (kN_splitPayment σ cents) today) 2) ((kN_accrue (kN_splitPayment σ cents) today) 3) ((kN_accrue (kN_splitPayment σ cents) today) 4)) today)) else ((kN_accrue (kN_splitPayment σ cents) today) 2 5, mkL 1 (((kN_accrue (kN_splitPayment σ cents) today) 0 1) - (((kN_splitPayment σ cents) 2 2) + ((kN_splitPayment σ cents) 2 4))) ((kN_accrue (kN_splitPayment σ cents) today) 0 2) ((kN_accrue (kN_splitPayment σ cents) today) 0 3) ((kN_accrue (kN_splitPayment σ cents) today) 0 4) ((kN_accrue (kN_splitPayment σ cents) today) 0 5) ((kN_accrue (kN_splitPayment σ cents) today) 0 6) ((kN_accrue (kN_splitPayment σ cents) today) 0 10) ((kN_accrue (kN_splitPayment σ cents) today) 0 11) ((kN_accrue (kN_splitPayment σ cents) today) 0 12) ((kN_accrue (kN_splitPayment σ cents) today) 0 13) ((kN_accrue (kN_splitPayment σ cents) today) 0 14) ((kN_accrue (kN_splitPayment σ cents) today) 0 15) ((kN_accrue (kN_splitPayment σ cents) today) 0 16) (((kN_accrue (kN_splitPayment σ cents) today) 0 20) + ((kN_accrue (kN_splitPayment σ cents) today) 2 3)) ((kN_accrue (kN_splitPayment σ cents) today) 0 21) ((kN_accrue (kN_splitPayment σ cents) today) 0 22) ((kN_accrue (kN_splitPayment σ cents) today) 0 30) (upd (upd (upd (upd ((kN_accrue (kN_splitPayment σ cents) today) 1) 0 (((kN_accrue (kN_splitPayment σ cents) today) 1 0) - ((kN_accrue (kN_splitPayment σ cents) today) 2 0))) 1 (((kN_accrue (kN_splitPayment σ cents) today) 1 1) - ((kN_accrue (kN_splitPayment σ cents) today) 2 1))) 2 (((kN_accrue (kN_splitPayment σ cents) today) 1 2) - ((kN_accrue (kN_splitPayment σ cents) today) 2 2))) 3 (((kN_accrue (kN_splitPayment σ cents) today) 1 3) - ((kN_accrue (kN_splitPayment σ cents) today) 2 3))) ((kN_accrue (kN_splitPayment σ cents) today) 2) ((kN_accrue (kN_splitPayment σ cents) today) 3) ((kN_accrue (kN_splitPayment σ cents) today) 4))))
abbrev wgN_takePayment : List Cond := .code yN_takePayment cN_takePayment 5 (some .int) :: GW
abbrev rm_N_takePayment : Room := { frames := 5, cells := 0, slots := 0, locals := 128 }
set_option maxRecDepth 100000 in
set_option maxHeartbeats 4000000 in
theorem c_N_takePayment (l : Launch) (D : va_G) (G : Nat → ClassId) (a : Nat → Nat) (σ : KS) (cents : Int32) (today : Int32) (sz : Nat)  : Met l yN_takePayment wgN_takePayment rm_N_takePayment (kw_Pc D vwCl (gt G) [.ref (a 0), .int cents, .int today] (lcells G a σ) sz) (kw_i D vwCl (gt G) (lcells G a σ) sz ((kN_takePayment σ cents today).1) (lcells G a (kN_takePayment σ cents today).2)) 0 0 (va_A (lcells G a σ) sz) := by
  refine Met.ofW (cc := cN_takePayment) (maxL := 5) (ret := (some .int)) (by decide) rfl ?_
  intro p e s m args below meth c s₁ B hml hv
  have hx := B.exec
  have hb := B.bytes
  have hr := B.returns
  have hts := atoms_spec (ws := wgN_takePayment) B.pre
  have hg : ∀ w ∈ GW, w.before args s = true := fun w h => hts w (List.mem_cons_of_mem _ h)
  have hown : s.vm.findClass RN = some m.cls := findClass_of_methodNamed B.named
  have hlocks := B.notSynchronized
  obtain ⟨hv, hsz, hP, hK, hD0⟩ := hv
  subst hsz
  have hD := hD0.self (sz := s.heap.size)
  have hS : va_S (va_A (lcells G a σ) s.heap.size) s.heap s.heap [] := va_S.rf
  refine kw_entry [.ref (a 0), .int cents, .int today] hv (Nat.le_of_ble_eq_true rfl) (fun ls hl => ?_)
  have hl : lv_has ls 5 [(0, .ref (a 0)), (1, .int cents), (2, .int today)] := hl
  refine lv_aload_n hx hb dN_takePayment_0 rfl (lv_at hl 0 rfl) ?_
  refine lv_iload_n hx hb dN_takePayment_1 rfl (lv_at hl 1 rfl) ?_
  refine kw_retv0 (va_runV (C := RN) (As := [.int cents]) (rest := []) ⟨hx, hb, hml, hown, hg⟩ (c_N_splitPayment l D G a σ cents _) ⟨kw_cB (n := 1) hg gw_390 gw_10 gw_388 (by decide +kernel) (by decide +kernel) ⟨Nat.le_of_ble_eq_true rfl, Nat.le_of_ble_eq_true rfl⟩ rfl rfl, hg _ gw_389, hg _ gw_742⟩ (kw_preV (q0 := 0) hK hP hD rfl rfl) rfl rfl hl.1 rfl (lv_room (Nat.le_of_ble_eq_true rfl)) dN_takePayment_2 ⟨Nat.le_of_ble_eq_true rfl, Nat.le_of_ble_eq_true rfl⟩) hP hD hS (fun _ h => Or.inr h) (fun H locs hP hD hS => ?_)
  obtain ⟨S_1, e_2⟩ : ∃ z : KS, (kN_splitPayment σ cents) = z := ⟨_, rfl⟩
  rw [e_2] at hP hD
  refine lv_aload_n hx hb dN_takePayment_5 rfl (lv_at hl 0 rfl) ?_
  refine va_get (v := .ref (a 5)) hx hb hg hin_N hown hK hP 0 rfl rfl 4 (by decide) (hg _ gw_222) (fun _ h => h) rfl dN_takePayment_6 ?_
  refine lv_iconst (v := 2) hx hb dN_takePayment_9 (by decide) ?_
  refine kw_iald (v := S_1 2 2) (j := 2) hx hb hK hP 5 0 rfl rfl (by unfold vp_in; decide) rfl rfl dN_takePayment_10 ?_
  refine lv_aload_n hx hb dN_takePayment_11 rfl (lv_at hl 0 rfl) ?_
  refine va_get (v := .ref (a 5)) hx hb hg hin_N hown hK hP 0 rfl rfl 4 (by decide) (hg _ gw_222) (fun _ h => h) rfl dN_takePayment_12 ?_
  refine lv_iconst (v := 4) hx hb dN_takePayment_15 (by decide) ?_
  refine kw_iald (v := S_1 2 4) (j := 4) hx hb hK hP 5 0 rfl rfl (by unfold vp_in; decide) rfl rfl dN_takePayment_16 ?_
  refine lv_iadd hx hb dN_takePayment_17 ?_
  refine lv_istore_n hx hb dN_takePayment_18 rfl hl (by decide) rfl (fun ls hl => ?_)
  have hl : lv_has ls 5 [(3, .int ((S_1 2 2) + (S_1 2 4))), (0, .ref (a 0)), (1, .int cents), (2, .int today)] := hl
  refine lv_iload_n hx hb dN_takePayment_19 rfl (lv_at hl 0 rfl) ?_
  refine lv_if_le (tgt := 28) hx hb dN_takePayment_20 (by decide) (fun h3 => ?_) (fun h3 => ?_)
  · skip
    refine lv_iconst (v := 0) hx hb dN_takePayment_28 (by decide) ?_
    refine lv_istore hx hb dN_takePayment_29 hl (by decide) rfl (fun ls hl => ?_)
    have hl : lv_has ls 5 [(4, .int 0), (3, .int ((S_1 2 2) + (S_1 2 4))), (0, .ref (a 0)), (1, .int cents), (2, .int today)] := hl
    refine lv_iload hx hb dN_takePayment_31 (lv_at hl 0 rfl) ?_
    refine lv_iconst (v := 4) hx hb dN_takePayment_33 (by decide) ?_
    refine lv_icmp_ge (tgt := 60) hx hb dN_takePayment_34 (by decide) (fun h => absurd h (by decide)) (fun _ => ?_)
    refine lv_aload_n hx hb dN_takePayment_37 rfl (lv_at hl 2 rfl) ?_
    refine va_get (v := .ref (a 4)) hx hb hg hin_N hown hK hP 0 rfl rfl 3 (by decide) (hg _ gw_220) (fun _ h => h) rfl dN_takePayment_38 ?_
    refine lv_iload hx hb dN_takePayment_41 (lv_at hl 0 rfl) ?_
    refine lv_dup2_11 hx hb dN_takePayment_43 rfl rfl ?_
    refine kw_iald (v := S_1 1 0) (j := 0) hx hb hK hP 4 0 rfl rfl (by unfold vp_in; decide) rfl rfl dN_takePayment_44 ?_
    refine lv_aload_n hx hb dN_takePayment_45 rfl (lv_at hl 2 rfl) ?_
    refine va_get (v := .ref (a 5)) hx hb hg hin_N hown hK hP 0 rfl rfl 4 (by decide) (hg _ gw_222) (fun _ h => h) rfl dN_takePayment_46 ?_
    refine lv_iload hx hb dN_takePayment_49 (lv_at hl 0 rfl) ?_
    refine kw_iald (v := S_1 2 0) (j := 0) hx hb hK hP 5 0 rfl rfl (by unfold vp_in; decide) rfl rfl dN_takePayment_51 ?_
    refine lv_isub hx hb dN_takePayment_52 ?_
    refine kw_iast (w' := lc G a (S_1 0 0) (S_1 0 1) (S_1 0 2) (S_1 0 3) (S_1 0 4) (S_1 0 5) (S_1 0 6) (S_1 0 10) (S_1 0 11) (S_1 0 12) (S_1 0 13) (S_1 0 14) (S_1 0 15) (S_1 0 16) (S_1 0 20) (S_1 0 21) (S_1 0 22) (S_1 0 30) (upd (S_1 1) 0 ((S_1 1 0) - (S_1 2 0))) (S_1 2) (S_1 3) (S_1 4)) (j := 0) hx hb hK hP hD hS 4 0 rfl rfl (by unfold vp_in; decide) rfl dN_takePayment_53 rfl (fun H locs hP hD hS => ?_)
    refine lv_iinc (v := 1) hx hb dN_takePayment_54 hl (k := 0) rfl (by first | rfl | decide) (by decide) rfl (fun ls hl => ?_)
    have hl : lv_has ls 5 [(4, .int 1), (3, .int ((S_1 2 2) + (S_1 2 4))), (0, .ref (a 0)), (1, .int cents), (2, .int today)] := hl
    refine lv_goto (tgt := 31) hx hb dN_takePayment_57 (by decide) ?_
    refine lv_iload hx hb dN_takePayment_31 (lv_at hl 0 rfl) ?_
    refine lv_iconst (v := 4) hx hb dN_takePayment_33 (by decide) ?_
    refine lv_icmp_ge (tgt := 60) hx hb dN_takePayment_34 (by decide) (fun h => absurd h (by decide)) (fun _ => ?_)
    refine lv_aload_n hx hb dN_takePayment_37 rfl (lv_at hl 2 rfl) ?_
    refine va_get (v := .ref (a 4)) hx hb hg hin_N hown hK hP 0 rfl rfl 3 (by decide) (hg _ gw_220) (fun _ h => h) rfl dN_takePayment_38 ?_
    refine lv_iload hx hb dN_takePayment_41 (lv_at hl 0 rfl) ?_
    refine lv_dup2_11 hx hb dN_takePayment_43 rfl rfl ?_
    refine kw_iald (v := S_1 1 1) (j := 1) hx hb hK hP 4 0 rfl rfl (by unfold vp_in; decide) rfl rfl dN_takePayment_44 ?_
    refine lv_aload_n hx hb dN_takePayment_45 rfl (lv_at hl 2 rfl) ?_
    refine va_get (v := .ref (a 5)) hx hb hg hin_N hown hK hP 0 rfl rfl 4 (by decide) (hg _ gw_222) (fun _ h => h) rfl dN_takePayment_46 ?_
    refine lv_iload hx hb dN_takePayment_49 (lv_at hl 0 rfl) ?_
    refine kw_iald (v := S_1 2 1) (j := 1) hx hb hK hP 5 0 rfl rfl (by unfold vp_in; decide) rfl rfl dN_takePayment_51 ?_
    refine lv_isub hx hb dN_takePayment_52 ?_
    refine kw_iast (w' := lc G a (S_1 0 0) (S_1 0 1) (S_1 0 2) (S_1 0 3) (S_1 0 4) (S_1 0 5) (S_1 0 6) (S_1 0 10) (S_1 0 11) (S_1 0 12) (S_1 0 13) (S_1 0 14) (S_1 0 15) (S_1 0 16) (S_1 0 20) (S_1 0 21) (S_1 0 22) (S_1 0 30) (upd (upd (S_1 1) 0 ((S_1 1 0) - (S_1 2 0))) 1 ((S_1 1 1) - (S_1 2 1))) (S_1 2) (S_1 3) (S_1 4)) (j := 1) hx hb hK hP hD hS 4 0 rfl rfl (by unfold vp_in; decide) rfl dN_takePayment_53 rfl (fun H locs hP hD hS => ?_)
    refine lv_iinc (v := 2) hx hb dN_takePayment_54 hl (k := 0) rfl (by first | rfl | decide) (by decide) rfl (fun ls hl => ?_)
    have hl : lv_has ls 5 [(4, .int 2), (3, .int ((S_1 2 2) + (S_1 2 4))), (0, .ref (a 0)), (1, .int cents), (2, .int today)] := hl
    refine lv_goto (tgt := 31) hx hb dN_takePayment_57 (by decide) ?_
    refine lv_iload hx hb dN_takePayment_31 (lv_at hl 0 rfl) ?_
    refine lv_iconst (v := 4) hx hb dN_takePayment_33 (by decide) ?_
    refine lv_icmp_ge (tgt := 60) hx hb dN_takePayment_34 (by decide) (fun h => absurd h (by decide)) (fun _ => ?_)
    refine lv_aload_n hx hb dN_takePayment_37 rfl (lv_at hl 2 rfl) ?_
    refine va_get (v := .ref (a 4)) hx hb hg hin_N hown hK hP 0 rfl rfl 3 (by decide) (hg _ gw_220) (fun _ h => h) rfl dN_takePayment_38 ?_
    refine lv_iload hx hb dN_takePayment_41 (lv_at hl 0 rfl) ?_
    refine lv_dup2_11 hx hb dN_takePayment_43 rfl rfl ?_
    refine kw_iald (v := S_1 1 2) (j := 2) hx hb hK hP 4 0 rfl rfl (by unfold vp_in; decide) rfl rfl dN_takePayment_44 ?_
    refine lv_aload_n hx hb dN_takePayment_45 rfl (lv_at hl 2 rfl) ?_
    refine va_get (v := .ref (a 5)) hx hb hg hin_N hown hK hP 0 rfl rfl 4 (by decide) (hg _ gw_222) (fun _ h => h) rfl dN_takePayment_46 ?_
    refine lv_iload hx hb dN_takePayment_49 (lv_at hl 0 rfl) ?_
    refine kw_iald (v := S_1 2 2) (j := 2) hx hb hK hP 5 0 rfl rfl (by unfold vp_in; decide) rfl rfl dN_takePayment_51 ?_
    refine lv_isub hx hb dN_takePayment_52 ?_
    refine kw_iast (w' := lc G a (S_1 0 0) (S_1 0 1) (S_1 0 2) (S_1 0 3) (S_1 0 4) (S_1 0 5) (S_1 0 6) (S_1 0 10) (S_1 0 11) (S_1 0 12) (S_1 0 13) (S_1 0 14) (S_1 0 15) (S_1 0 16) (S_1 0 20) (S_1 0 21) (S_1 0 22) (S_1 0 30) (upd (upd (upd (S_1 1) 0 ((S_1 1 0) - (S_1 2 0))) 1 ((S_1 1 1) - (S_1 2 1))) 2 ((S_1 1 2) - (S_1 2 2))) (S_1 2) (S_1 3) (S_1 4)) (j := 2) hx hb hK hP hD hS 4 0 rfl rfl (by unfold vp_in; decide) rfl dN_takePayment_53 rfl (fun H locs hP hD hS => ?_)
    refine lv_iinc (v := 3) hx hb dN_takePayment_54 hl (k := 0) rfl (by first | rfl | decide) (by decide) rfl (fun ls hl => ?_)
    have hl : lv_has ls 5 [(4, .int 3), (3, .int ((S_1 2 2) + (S_1 2 4))), (0, .ref (a 0)), (1, .int cents), (2, .int today)] := hl
    refine lv_goto (tgt := 31) hx hb dN_takePayment_57 (by decide) ?_
    refine lv_iload hx hb dN_takePayment_31 (lv_at hl 0 rfl) ?_
    refine lv_iconst (v := 4) hx hb dN_takePayment_33 (by decide) ?_
    refine lv_icmp_ge (tgt := 60) hx hb dN_takePayment_34 (by decide) (fun h => absurd h (by decide)) (fun _ => ?_)
    refine lv_aload_n hx hb dN_takePayment_37 rfl (lv_at hl 2 rfl) ?_
    refine va_get (v := .ref (a 4)) hx hb hg hin_N hown hK hP 0 rfl rfl 3 (by decide) (hg _ gw_220) (fun _ h => h) rfl dN_takePayment_38 ?_
    refine lv_iload hx hb dN_takePayment_41 (lv_at hl 0 rfl) ?_
    refine lv_dup2_11 hx hb dN_takePayment_43 rfl rfl ?_
    refine kw_iald (v := S_1 1 3) (j := 3) hx hb hK hP 4 0 rfl rfl (by unfold vp_in; decide) rfl rfl dN_takePayment_44 ?_
    refine lv_aload_n hx hb dN_takePayment_45 rfl (lv_at hl 2 rfl) ?_
    refine va_get (v := .ref (a 5)) hx hb hg hin_N hown hK hP 0 rfl rfl 4 (by decide) (hg _ gw_222) (fun _ h => h) rfl dN_takePayment_46 ?_
    refine lv_iload hx hb dN_takePayment_49 (lv_at hl 0 rfl) ?_
    refine kw_iald (v := S_1 2 3) (j := 3) hx hb hK hP 5 0 rfl rfl (by unfold vp_in; decide) rfl rfl dN_takePayment_51 ?_
    refine lv_isub hx hb dN_takePayment_52 ?_
    refine kw_iast (w' := lc G a (S_1 0 0) (S_1 0 1) (S_1 0 2) (S_1 0 3) (S_1 0 4) (S_1 0 5) (S_1 0 6) (S_1 0 10) (S_1 0 11) (S_1 0 12) (S_1 0 13) (S_1 0 14) (S_1 0 15) (S_1 0 16) (S_1 0 20) (S_1 0 21) (S_1 0 22) (S_1 0 30) (upd (upd (upd (upd (S_1 1) 0 ((S_1 1 0) - (S_1 2 0))) 1 ((S_1 1 1) - (S_1 2 1))) 2 ((S_1 1 2) - (S_1 2 2))) 3 ((S_1 1 3) - (S_1 2 3))) (S_1 2) (S_1 3) (S_1 4)) (j := 3) hx hb hK hP hD hS 4 0 rfl rfl (by unfold vp_in; decide) rfl dN_takePayment_53 rfl (fun H locs hP hD hS => ?_)
    refine lv_iinc (v := 4) hx hb dN_takePayment_54 hl (k := 0) rfl (by first | rfl | decide) (by decide) rfl (fun ls hl => ?_)
    have hl : lv_has ls 5 [(4, .int 4), (3, .int ((S_1 2 2) + (S_1 2 4))), (0, .ref (a 0)), (1, .int cents), (2, .int today)] := hl
    refine lv_goto (tgt := 31) hx hb dN_takePayment_57 (by decide) ?_
    refine lv_iload hx hb dN_takePayment_31 (lv_at hl 0 rfl) ?_
    refine lv_iconst (v := 4) hx hb dN_takePayment_33 (by decide) ?_
    refine lv_icmp_ge (tgt := 60) hx hb dN_takePayment_34 (by decide) (fun _ => ?_) (fun h => absurd h (by decide))
    refine lv_aload_n hx hb dN_takePayment_60 rfl (lv_at hl 2 rfl) ?_
    refine lv_dup hx hb dN_takePayment_61 rfl ?_
    refine va_get (v := .int (S_1 0 1)) hx hb hg hin_N hown hK hP 0 rfl rfl 6 (by decide) (hg _ gw_226) (fun _ h => h) rfl dN_takePayment_62 ?_
    refine lv_iload_n hx hb dN_takePayment_65 rfl (lv_at hl 1 rfl) ?_
    refine lv_isub hx hb dN_takePayment_66 ?_
    refine kw_put (w' := lc G a (S_1 0 0) ((S_1 0 1) - ((S_1 2 2) + (S_1 2 4))) (S_1 0 2) (S_1 0 3) (S_1 0 4) (S_1 0 5) (S_1 0 6) (S_1 0 10) (S_1 0 11) (S_1 0 12) (S_1 0 13) (S_1 0 14) (S_1 0 15) (S_1 0 16) (S_1 0 20) (S_1 0 21) (S_1 0 22) (S_1 0 30) (upd (upd (upd (upd (S_1 1) 0 ((S_1 1 0) - (S_1 2 0))) 1 ((S_1 1 1) - (S_1 2 1))) 2 ((S_1 1 2) - (S_1 2 2))) 3 ((S_1 1 3) - (S_1 2 3))) (S_1 2) (S_1 3) (S_1 4)) (v := .int ((S_1 0 1) - ((S_1 2 2) + (S_1 2 4)))) (ty := .int) hx hb hg hin_N tyN tyN_ok nN hown hK hP hD hS 0 rfl rfl 6 (by decide) (hg _ gw_226) (fun _ h => h) rfl (by decide +kernel) rfl rfl (Nat.le_of_ble_eq_true rfl) dN_takePayment_67 rfl (fun H locs hP hD hS => ?_)
    refine lv_aload_n hx hb dN_takePayment_70 rfl (lv_at hl 2 rfl) ?_
    refine va_get (v := .ref (a 2)) hx hb hg hin_N hown hK hP 0 rfl rfl 1 (by decide) (hg _ gw_216) (fun _ h => h) rfl dN_takePayment_71 ?_
    refine lv_dup hx hb dN_takePayment_74 rfl ?_
    refine va_get (v := .int (S_1 0 20)) hx hb hg hin_A hown hK hP 2 rfl rfl 0 (by decide) (hg _ gw_178) (fun _ h => h) rfl dN_takePayment_75 ?_
    refine lv_aload_n hx hb dN_takePayment_78 rfl (lv_at hl 2 rfl) ?_
    refine va_get (v := .ref (a 5)) hx hb hg hin_N hown hK hP 0 rfl rfl 4 (by decide) (hg _ gw_222) (fun _ h => h) rfl dN_takePayment_79 ?_
    refine lv_iconst (v := 3) hx hb dN_takePayment_82 (by decide) ?_
    refine kw_iald (v := S_1 2 3) (j := 3) hx hb hK hP 5 0 rfl rfl (by unfold vp_in; decide) rfl rfl dN_takePayment_83 ?_
    refine lv_iadd hx hb dN_takePayment_84 ?_
    refine kw_put (w' := lc G a (S_1 0 0) ((S_1 0 1) - ((S_1 2 2) + (S_1 2 4))) (S_1 0 2) (S_1 0 3) (S_1 0 4) (S_1 0 5) (S_1 0 6) (S_1 0 10) (S_1 0 11) (S_1 0 12) (S_1 0 13) (S_1 0 14) (S_1 0 15) (S_1 0 16) ((S_1 0 20) + (S_1 2 3)) (S_1 0 21) (S_1 0 22) (S_1 0 30) (upd (upd (upd (upd (S_1 1) 0 ((S_1 1 0) - (S_1 2 0))) 1 ((S_1 1 1) - (S_1 2 1))) 2 ((S_1 1 2) - (S_1 2 2))) 3 ((S_1 1 3) - (S_1 2 3))) (S_1 2) (S_1 3) (S_1 4)) (v := .int ((S_1 0 20) + (S_1 2 3))) (ty := .int) hx hb hg hin_A tyA tyA_ok nA hown hK hP hD hS 2 rfl rfl 0 (by decide) (hg _ gw_178) (fun _ h => h) rfl (by decide +kernel) rfl rfl (Nat.le_of_ble_eq_true rfl) dN_takePayment_85 rfl (fun H locs hP hD hS => ?_)
    refine lv_aload_n hx hb dN_takePayment_88 rfl (lv_at hl 2 rfl) ?_
    refine lv_iconst (v := 1) hx hb dN_takePayment_89 (by decide) ?_
    refine kw_put (w' := lc G a 1 ((S_1 0 1) - ((S_1 2 2) + (S_1 2 4))) (S_1 0 2) (S_1 0 3) (S_1 0 4) (S_1 0 5) (S_1 0 6) (S_1 0 10) (S_1 0 11) (S_1 0 12) (S_1 0 13) (S_1 0 14) (S_1 0 15) (S_1 0 16) ((S_1 0 20) + (S_1 2 3)) (S_1 0 21) (S_1 0 22) (S_1 0 30) (upd (upd (upd (upd (S_1 1) 0 ((S_1 1 0) - (S_1 2 0))) 1 ((S_1 1 1) - (S_1 2 1))) 2 ((S_1 1 2) - (S_1 2 2))) 3 ((S_1 1 3) - (S_1 2 3))) (S_1 2) (S_1 3) (S_1 4)) (v := .int 1) (ty := .boolean) hx hb hg hin_N tyN tyN_ok nN hown hK hP hD hS 0 rfl rfl 5 (by decide) (hg _ gw_225) (fun _ h => h) rfl (by decide +kernel) (by decide) (by decide) (Nat.le_of_ble_eq_true rfl) dN_takePayment_90 rfl (fun H locs hP hD hS => ?_)
    refine lv_aload_n hx hb dN_takePayment_93 rfl (lv_at hl 2 rfl) ?_
    refine va_get (v := .ref (a 5)) hx hb hg hin_N hown hK hP 0 rfl rfl 4 (by decide) (hg _ gw_222) (fun _ h => h) rfl dN_takePayment_94 ?_
    refine lv_iconst (v := 4) hx hb dN_takePayment_97 (by decide) ?_
    refine kw_iald (v := S_1 2 4) (j := 4) hx hb hK hP 5 0 rfl rfl (by unfold vp_in; decide) rfl rfl dN_takePayment_98 ?_
    refine lv_if_le (tgt := 117) hx hb dN_takePayment_99 (by decide) (fun h4 => ?_) (fun h4 => ?_)
    · skip
      refine lv_aload_n hx hb dN_takePayment_117 rfl (lv_at hl 2 rfl) ?_
      refine va_get (v := .ref (a 5)) hx hb hg hin_N hown hK hP 0 rfl rfl 4 (by decide) (hg _ gw_222) (fun _ h => h) rfl dN_takePayment_118 ?_
      refine lv_iconst (v := 5) hx hb dN_takePayment_121 (by decide) ?_
      refine kw_iald (v := S_1 2 5) (j := 5) hx hb hK hP 5 0 rfl rfl (by unfold vp_in; decide) rfl rfl dN_takePayment_122 ?_
      have hk9 : kN_takePayment σ cents today = (S_1 2 5, mkL 1 ((S_1 0 1) - ((S_1 2 2) + (S_1 2 4))) (S_1 0 2) (S_1 0 3) (S_1 0 4) (S_1 0 5) (S_1 0 6) (S_1 0 10) (S_1 0 11) (S_1 0 12) (S_1 0 13) (S_1 0 14) (S_1 0 15) (S_1 0 16) ((S_1 0 20) + (S_1 2 3)) (S_1 0 21) (S_1 0 22) (S_1 0 30) (upd (upd (upd (upd (S_1 1) 0 ((S_1 1 0) - (S_1 2 0))) 1 ((S_1 1 1) - (S_1 2 1))) 2 ((S_1 1 2) - (S_1 2 2))) 3 ((S_1 1 3) - (S_1 2 3))) (S_1 2) (S_1 3) (S_1 4)) := by subst e_2; unfold kN_takePayment; rw [if_pos h3, if_pos h4]
      exact kw_iret hx hb hr hlocks hK hP hD hS (kw_fin (f := lcells G a) (S := mkL 1 ((S_1 0 1) - ((S_1 2 2) + (S_1 2 4))) (S_1 0 2) (S_1 0 3) (S_1 0 4) (S_1 0 5) (S_1 0 6) (S_1 0 10) (S_1 0 11) (S_1 0 12) (S_1 0 13) (S_1 0 14) (S_1 0 15) (S_1 0 16) ((S_1 0 20) + (S_1 2 3)) (S_1 0 21) (S_1 0 22) (S_1 0 30) (upd (upd (upd (upd (S_1 1) 0 ((S_1 1 0) - (S_1 2 0))) 1 ((S_1 1 1) - (S_1 2 1))) 2 ((S_1 1 2) - (S_1 2 2))) 3 ((S_1 1 3) - (S_1 2 3))) (S_1 2) (S_1 3) (S_1 4)) rfl hk9) dN_takePayment_123
    · skip
      refine lv_aload_n hx hb dN_takePayment_102 rfl (lv_at hl 2 rfl) ?_
      refine va_get (v := .ref (a 1)) hx hb hg hin_N hown hK hP 0 rfl rfl 0 (by decide) (hg _ gw_214) (fun _ h => h) rfl dN_takePayment_103 ?_
      refine va_get (v := .int (S_1 0 14)) hx hb hg hin_T hown hK hP 1 rfl rfl 4 (by decide) (hg _ gw_149) (fun _ h => h) rfl dN_takePayment_106 ?_
      refine lv_if_ne (tgt := 117) hx hb dN_takePayment_109 (by decide) (fun h5 => ?_) (fun h5 => ?_)
      · skip
        refine lv_aload_n hx hb dN_takePayment_117 rfl (lv_at hl 2 rfl) ?_
        refine va_get (v := .ref (a 5)) hx hb hg hin_N hown hK hP 0 rfl rfl 4 (by decide) (hg _ gw_222) (fun _ h => h) rfl dN_takePayment_118 ?_
        refine lv_iconst (v := 5) hx hb dN_takePayment_121 (by decide) ?_
        refine kw_iald (v := S_1 2 5) (j := 5) hx hb hK hP 5 0 rfl rfl (by unfold vp_in; decide) rfl rfl dN_takePayment_122 ?_
        have hk9 : kN_takePayment σ cents today = (S_1 2 5, mkL 1 ((S_1 0 1) - ((S_1 2 2) + (S_1 2 4))) (S_1 0 2) (S_1 0 3) (S_1 0 4) (S_1 0 5) (S_1 0 6) (S_1 0 10) (S_1 0 11) (S_1 0 12) (S_1 0 13) (S_1 0 14) (S_1 0 15) (S_1 0 16) ((S_1 0 20) + (S_1 2 3)) (S_1 0 21) (S_1 0 22) (S_1 0 30) (upd (upd (upd (upd (S_1 1) 0 ((S_1 1 0) - (S_1 2 0))) 1 ((S_1 1 1) - (S_1 2 1))) 2 ((S_1 1 2) - (S_1 2 2))) 3 ((S_1 1 3) - (S_1 2 3))) (S_1 2) (S_1 3) (S_1 4)) := by subst e_2; unfold kN_takePayment; rw [if_pos h3, if_neg h4, if_neg h5]
        exact kw_iret hx hb hr hlocks hK hP hD hS (kw_fin (f := lcells G a) (S := mkL 1 ((S_1 0 1) - ((S_1 2 2) + (S_1 2 4))) (S_1 0 2) (S_1 0 3) (S_1 0 4) (S_1 0 5) (S_1 0 6) (S_1 0 10) (S_1 0 11) (S_1 0 12) (S_1 0 13) (S_1 0 14) (S_1 0 15) (S_1 0 16) ((S_1 0 20) + (S_1 2 3)) (S_1 0 21) (S_1 0 22) (S_1 0 30) (upd (upd (upd (upd (S_1 1) 0 ((S_1 1 0) - (S_1 2 0))) 1 ((S_1 1 1) - (S_1 2 1))) 2 ((S_1 1 2) - (S_1 2 2))) 3 ((S_1 1 3) - (S_1 2 3))) (S_1 2) (S_1 3) (S_1 4)) rfl hk9) dN_takePayment_123
      · skip
        refine lv_aload_n hx hb dN_takePayment_112 rfl (lv_at hl 2 rfl) ?_
        refine lv_iload_n hx hb dN_takePayment_113 rfl (lv_at hl 4 rfl) ?_
        refine kw_retv0 (va_runV (C := RN) (As := [.int today]) (rest := []) ⟨hx, hb, hml, hown, hg⟩ (c_N_reckonLevel l D G a (mkL 1 ((S_1 0 1) - ((S_1 2 2) + (S_1 2 4))) (S_1 0 2) (S_1 0 3) (S_1 0 4) (S_1 0 5) (S_1 0 6) (S_1 0 10) (S_1 0 11) (S_1 0 12) (S_1 0 13) (S_1 0 14) (S_1 0 15) (S_1 0 16) ((S_1 0 20) + (S_1 2 3)) (S_1 0 21) (S_1 0 22) (S_1 0 30) (upd (upd (upd (upd (S_1 1) 0 ((S_1 1 0) - (S_1 2 0))) 1 ((S_1 1 1) - (S_1 2 1))) 2 ((S_1 1 2) - (S_1 2 2))) 3 ((S_1 1 3) - (S_1 2 3))) (S_1 2) (S_1 3) (S_1 4)) today _) ⟨kw_cB (n := 1) hg gw_265 gw_10 gw_391 (by decide +kernel) (by decide +kernel) ⟨Nat.le_of_ble_eq_true rfl, Nat.le_of_ble_eq_true rfl⟩ rfl rfl, hg _ gw_263, hg _ gw_264⟩ (kw_preV (q0 := 0) hK hP hD rfl rfl) rfl rfl hl.1 rfl (lv_room (Nat.le_of_ble_eq_true rfl)) dN_takePayment_114 ⟨Nat.le_of_ble_eq_true rfl, Nat.le_of_ble_eq_true rfl⟩) hP hD hS (fun _ h => Or.inr h) (fun H locs hP hD hS => ?_)
        obtain ⟨S_6, e_7⟩ : ∃ z : KS, (kN_reckonLevel (mkL 1 ((S_1 0 1) - ((S_1 2 2) + (S_1 2 4))) (S_1 0 2) (S_1 0 3) (S_1 0 4) (S_1 0 5) (S_1 0 6) (S_1 0 10) (S_1 0 11) (S_1 0 12) (S_1 0 13) (S_1 0 14) (S_1 0 15) (S_1 0 16) ((S_1 0 20) + (S_1 2 3)) (S_1 0 21) (S_1 0 22) (S_1 0 30) (upd (upd (upd (upd (S_1 1) 0 ((S_1 1 0) - (S_1 2 0))) 1 ((S_1 1 1) - (S_1 2 1))) 2 ((S_1 1 2) - (S_1 2 2))) 3 ((S_1 1 3) - (S_1 2 3))) (S_1 2) (S_1 3) (S_1 4)) today) = z := ⟨_, rfl⟩
        rw [e_7] at hP hD
        refine lv_aload_n hx hb dN_takePayment_117 rfl (lv_at hl 2 rfl) ?_
        refine va_get (v := .ref (a 5)) hx hb hg hin_N hown hK hP 0 rfl rfl 4 (by decide) (hg _ gw_222) (fun _ h => h) rfl dN_takePayment_118 ?_
        refine lv_iconst (v := 5) hx hb dN_takePayment_121 (by decide) ?_
        refine kw_iald (v := S_6 2 5) (j := 5) hx hb hK hP 5 0 rfl rfl (by unfold vp_in; decide) rfl rfl dN_takePayment_122 ?_
        have hk9 : kN_takePayment σ cents today = (S_6 2 5, S_6) := by subst e_2 e_7; unfold kN_takePayment; rw [if_pos h3, if_neg h4, if_pos h5]
        exact kw_iret hx hb hr hlocks hK hP hD hS (kw_fin (f := lcells G a) (S := S_6) rfl hk9) dN_takePayment_123
  · skip
    refine lv_aload_n hx hb dN_takePayment_23 rfl (lv_at hl 1 rfl) ?_
    refine lv_iload_n hx hb dN_takePayment_24 rfl (lv_at hl 3 rfl) ?_
    refine kw_retv0 (va_runV (C := RN) (As := [.int today]) (rest := []) ⟨hx, hb, hml, hown, hg⟩ (c_N_accrue l D G a S_1 today _) ⟨kw_cB (n := 1) hg gw_360 gw_10 gw_358 (by decide +kernel) (by decide +kernel) ⟨Nat.le_of_ble_eq_true rfl, Nat.le_of_ble_eq_true rfl⟩ rfl rfl, hg _ gw_359, hg _ gw_739⟩ (kw_preV (q0 := 0) hK hP hD rfl rfl) rfl rfl hl.1 rfl (lv_room (Nat.le_of_ble_eq_true rfl)) dN_takePayment_25 ⟨Nat.le_of_ble_eq_true rfl, Nat.le_of_ble_eq_true rfl⟩) hP hD hS (fun _ h => Or.inr h) (fun H locs hP hD hS => ?_)
    obtain ⟨S_8, e_9⟩ : ∃ z : KS, (kN_accrue S_1 today) = z := ⟨_, rfl⟩
    rw [e_9] at hP hD
    refine lv_iconst (v := 0) hx hb dN_takePayment_28 (by decide) ?_
    refine lv_istore hx hb dN_takePayment_29 hl (by decide) rfl (fun ls hl => ?_)
    have hl : lv_has ls 5 [(4, .int 0), (3, .int ((S_1 2 2) + (S_1 2 4))), (0, .ref (a 0)), (1, .int cents), (2, .int today)] := hl
    refine lv_iload hx hb dN_takePayment_31 (lv_at hl 0 rfl) ?_
    refine lv_iconst (v := 4) hx hb dN_takePayment_33 (by decide) ?_
    refine lv_icmp_ge (tgt := 60) hx hb dN_takePayment_34 (by decide) (fun h => absurd h (by decide)) (fun _ => ?_)
    refine lv_aload_n hx hb dN_takePayment_37 rfl (lv_at hl 2 rfl) ?_
    refine va_get (v := .ref (a 4)) hx hb hg hin_N hown hK hP 0 rfl rfl 3 (by decide) (hg _ gw_220) (fun _ h => h) rfl dN_takePayment_38 ?_
    refine lv_iload hx hb dN_takePayment_41 (lv_at hl 0 rfl) ?_
    refine lv_dup2_11 hx hb dN_takePayment_43 rfl rfl ?_
    refine kw_iald (v := S_8 1 0) (j := 0) hx hb hK hP 4 0 rfl rfl (by unfold vp_in; decide) rfl rfl dN_takePayment_44 ?_
    refine lv_aload_n hx hb dN_takePayment_45 rfl (lv_at hl 2 rfl) ?_
    refine va_get (v := .ref (a 5)) hx hb hg hin_N hown hK hP 0 rfl rfl 4 (by decide) (hg _ gw_222) (fun _ h => h) rfl dN_takePayment_46 ?_
    refine lv_iload hx hb dN_takePayment_49 (lv_at hl 0 rfl) ?_
    refine kw_iald (v := S_8 2 0) (j := 0) hx hb hK hP 5 0 rfl rfl (by unfold vp_in; decide) rfl rfl dN_takePayment_51 ?_
    refine lv_isub hx hb dN_takePayment_52 ?_
    refine kw_iast (w' := lc G a (S_8 0 0) (S_8 0 1) (S_8 0 2) (S_8 0 3) (S_8 0 4) (S_8 0 5) (S_8 0 6) (S_8 0 10) (S_8 0 11) (S_8 0 12) (S_8 0 13) (S_8 0 14) (S_8 0 15) (S_8 0 16) (S_8 0 20) (S_8 0 21) (S_8 0 22) (S_8 0 30) (upd (S_8 1) 0 ((S_8 1 0) - (S_8 2 0))) (S_8 2) (S_8 3) (S_8 4)) (j := 0) hx hb hK hP hD hS 4 0 rfl rfl (by unfold vp_in; decide) rfl dN_takePayment_53 rfl (fun H locs hP hD hS => ?_)
    refine lv_iinc (v := 1) hx hb dN_takePayment_54 hl (k := 0) rfl (by first | rfl | decide) (by decide) rfl (fun ls hl => ?_)
    have hl : lv_has ls 5 [(4, .int 1), (3, .int ((S_1 2 2) + (S_1 2 4))), (0, .ref (a 0)), (1, .int cents), (2, .int today)] := hl
    refine lv_goto (tgt := 31) hx hb dN_takePayment_57 (by decide) ?_
    refine lv_iload hx hb dN_takePayment_31 (lv_at hl 0 rfl) ?_
    refine lv_iconst (v := 4) hx hb dN_takePayment_33 (by decide) ?_
    refine lv_icmp_ge (tgt := 60) hx hb dN_takePayment_34 (by decide) (fun h => absurd h (by decide)) (fun _ => ?_)
    refine lv_aload_n hx hb dN_takePayment_37 rfl (lv_at hl 2 rfl) ?_
    refine va_get (v := .ref (a 4)) hx hb hg hin_N hown hK hP 0 rfl rfl 3 (by decide) (hg _ gw_220) (fun _ h => h) rfl dN_takePayment_38 ?_
    refine lv_iload hx hb dN_takePayment_41 (lv_at hl 0 rfl) ?_
    refine lv_dup2_11 hx hb dN_takePayment_43 rfl rfl ?_
    refine kw_iald (v := S_8 1 1) (j := 1) hx hb hK hP 4 0 rfl rfl (by unfold vp_in; decide) rfl rfl dN_takePayment_44 ?_
    refine lv_aload_n hx hb dN_takePayment_45 rfl (lv_at hl 2 rfl) ?_
    refine va_get (v := .ref (a 5)) hx hb hg hin_N hown hK hP 0 rfl rfl 4 (by decide) (hg _ gw_222) (fun _ h => h) rfl dN_takePayment_46 ?_
    refine lv_iload hx hb dN_takePayment_49 (lv_at hl 0 rfl) ?_
    refine kw_iald (v := S_8 2 1) (j := 1) hx hb hK hP 5 0 rfl rfl (by unfold vp_in; decide) rfl rfl dN_takePayment_51 ?_
    refine lv_isub hx hb dN_takePayment_52 ?_
    refine kw_iast (w' := lc G a (S_8 0 0) (S_8 0 1) (S_8 0 2) (S_8 0 3) (S_8 0 4) (S_8 0 5) (S_8 0 6) (S_8 0 10) (S_8 0 11) (S_8 0 12) (S_8 0 13) (S_8 0 14) (S_8 0 15) (S_8 0 16) (S_8 0 20) (S_8 0 21) (S_8 0 22) (S_8 0 30) (upd (upd (S_8 1) 0 ((S_8 1 0) - (S_8 2 0))) 1 ((S_8 1 1) - (S_8 2 1))) (S_8 2) (S_8 3) (S_8 4)) (j := 1) hx hb hK hP hD hS 4 0 rfl rfl (by unfold vp_in; decide) rfl dN_takePayment_53 rfl (fun H locs hP hD hS => ?_)
    refine lv_iinc (v := 2) hx hb dN_takePayment_54 hl (k := 0) rfl (by first | rfl | decide) (by decide) rfl (fun ls hl => ?_)
    have hl : lv_has ls 5 [(4, .int 2), (3, .int ((S_1 2 2) + (S_1 2 4))), (0, .ref (a 0)), (1, .int cents), (2, .int today)] := hl
    refine lv_goto (tgt := 31) hx hb dN_takePayment_57 (by decide) ?_
    refine lv_iload hx hb dN_takePayment_31 (lv_at hl 0 rfl) ?_
    refine lv_iconst (v := 4) hx hb dN_takePayment_33 (by decide) ?_
    refine lv_icmp_ge (tgt := 60) hx hb dN_takePayment_34 (by decide) (fun h => absurd h (by decide)) (fun _ => ?_)
    refine lv_aload_n hx hb dN_takePayment_37 rfl (lv_at hl 2 rfl) ?_
    refine va_get (v := .ref (a 4)) hx hb hg hin_N hown hK hP 0 rfl rfl 3 (by decide) (hg _ gw_220) (fun _ h => h) rfl dN_takePayment_38 ?_
    refine lv_iload hx hb dN_takePayment_41 (lv_at hl 0 rfl) ?_
    refine lv_dup2_11 hx hb dN_takePayment_43 rfl rfl ?_
    refine kw_iald (v := S_8 1 2) (j := 2) hx hb hK hP 4 0 rfl rfl (by unfold vp_in; decide) rfl rfl dN_takePayment_44 ?_
    refine lv_aload_n hx hb dN_takePayment_45 rfl (lv_at hl 2 rfl) ?_
    refine va_get (v := .ref (a 5)) hx hb hg hin_N hown hK hP 0 rfl rfl 4 (by decide) (hg _ gw_222) (fun _ h => h) rfl dN_takePayment_46 ?_
    refine lv_iload hx hb dN_takePayment_49 (lv_at hl 0 rfl) ?_
    refine kw_iald (v := S_8 2 2) (j := 2) hx hb hK hP 5 0 rfl rfl (by unfold vp_in; decide) rfl rfl dN_takePayment_51 ?_
    refine lv_isub hx hb dN_takePayment_52 ?_
    refine kw_iast (w' := lc G a (S_8 0 0) (S_8 0 1) (S_8 0 2) (S_8 0 3) (S_8 0 4) (S_8 0 5) (S_8 0 6) (S_8 0 10) (S_8 0 11) (S_8 0 12) (S_8 0 13) (S_8 0 14) (S_8 0 15) (S_8 0 16) (S_8 0 20) (S_8 0 21) (S_8 0 22) (S_8 0 30) (upd (upd (upd (S_8 1) 0 ((S_8 1 0) - (S_8 2 0))) 1 ((S_8 1 1) - (S_8 2 1))) 2 ((S_8 1 2) - (S_8 2 2))) (S_8 2) (S_8 3) (S_8 4)) (j := 2) hx hb hK hP hD hS 4 0 rfl rfl (by unfold vp_in; decide) rfl dN_takePayment_53 rfl (fun H locs hP hD hS => ?_)
    refine lv_iinc (v := 3) hx hb dN_takePayment_54 hl (k := 0) rfl (by first | rfl | decide) (by decide) rfl (fun ls hl => ?_)
    have hl : lv_has ls 5 [(4, .int 3), (3, .int ((S_1 2 2) + (S_1 2 4))), (0, .ref (a 0)), (1, .int cents), (2, .int today)] := hl
    refine lv_goto (tgt := 31) hx hb dN_takePayment_57 (by decide) ?_
    refine lv_iload hx hb dN_takePayment_31 (lv_at hl 0 rfl) ?_
    refine lv_iconst (v := 4) hx hb dN_takePayment_33 (by decide) ?_
    refine lv_icmp_ge (tgt := 60) hx hb dN_takePayment_34 (by decide) (fun h => absurd h (by decide)) (fun _ => ?_)
    refine lv_aload_n hx hb dN_takePayment_37 rfl (lv_at hl 2 rfl) ?_
    refine va_get (v := .ref (a 4)) hx hb hg hin_N hown hK hP 0 rfl rfl 3 (by decide) (hg _ gw_220) (fun _ h => h) rfl dN_takePayment_38 ?_
    refine lv_iload hx hb dN_takePayment_41 (lv_at hl 0 rfl) ?_
    refine lv_dup2_11 hx hb dN_takePayment_43 rfl rfl ?_
    refine kw_iald (v := S_8 1 3) (j := 3) hx hb hK hP 4 0 rfl rfl (by unfold vp_in; decide) rfl rfl dN_takePayment_44 ?_
    refine lv_aload_n hx hb dN_takePayment_45 rfl (lv_at hl 2 rfl) ?_
    refine va_get (v := .ref (a 5)) hx hb hg hin_N hown hK hP 0 rfl rfl 4 (by decide) (hg _ gw_222) (fun _ h => h) rfl dN_takePayment_46 ?_
    refine lv_iload hx hb dN_takePayment_49 (lv_at hl 0 rfl) ?_
    refine kw_iald (v := S_8 2 3) (j := 3) hx hb hK hP 5 0 rfl rfl (by unfold vp_in; decide) rfl rfl dN_takePayment_51 ?_
    refine lv_isub hx hb dN_takePayment_52 ?_
    refine kw_iast (w' := lc G a (S_8 0 0) (S_8 0 1) (S_8 0 2) (S_8 0 3) (S_8 0 4) (S_8 0 5) (S_8 0 6) (S_8 0 10) (S_8 0 11) (S_8 0 12) (S_8 0 13) (S_8 0 14) (S_8 0 15) (S_8 0 16) (S_8 0 20) (S_8 0 21) (S_8 0 22) (S_8 0 30) (upd (upd (upd (upd (S_8 1) 0 ((S_8 1 0) - (S_8 2 0))) 1 ((S_8 1 1) - (S_8 2 1))) 2 ((S_8 1 2) - (S_8 2 2))) 3 ((S_8 1 3) - (S_8 2 3))) (S_8 2) (S_8 3) (S_8 4)) (j := 3) hx hb hK hP hD hS 4 0 rfl rfl (by unfold vp_in; decide) rfl dN_takePayment_53 rfl (fun H locs hP hD hS => ?_)
    refine lv_iinc (v := 4) hx hb dN_takePayment_54 hl (k := 0) rfl (by first | rfl | decide) (by decide) rfl (fun ls hl => ?_)
    have hl : lv_has ls 5 [(4, .int 4), (3, .int ((S_1 2 2) + (S_1 2 4))), (0, .ref (a 0)), (1, .int cents), (2, .int today)] := hl
    refine lv_goto (tgt := 31) hx hb dN_takePayment_57 (by decide) ?_
    refine lv_iload hx hb dN_takePayment_31 (lv_at hl 0 rfl) ?_
    refine lv_iconst (v := 4) hx hb dN_takePayment_33 (by decide) ?_
    refine lv_icmp_ge (tgt := 60) hx hb dN_takePayment_34 (by decide) (fun _ => ?_) (fun h => absurd h (by decide))
    refine lv_aload_n hx hb dN_takePayment_60 rfl (lv_at hl 2 rfl) ?_
    refine lv_dup hx hb dN_takePayment_61 rfl ?_
    refine va_get (v := .int (S_8 0 1)) hx hb hg hin_N hown hK hP 0 rfl rfl 6 (by decide) (hg _ gw_226) (fun _ h => h) rfl dN_takePayment_62 ?_
    refine lv_iload_n hx hb dN_takePayment_65 rfl (lv_at hl 1 rfl) ?_
    refine lv_isub hx hb dN_takePayment_66 ?_
    refine kw_put (w' := lc G a (S_8 0 0) ((S_8 0 1) - ((S_1 2 2) + (S_1 2 4))) (S_8 0 2) (S_8 0 3) (S_8 0 4) (S_8 0 5) (S_8 0 6) (S_8 0 10) (S_8 0 11) (S_8 0 12) (S_8 0 13) (S_8 0 14) (S_8 0 15) (S_8 0 16) (S_8 0 20) (S_8 0 21) (S_8 0 22) (S_8 0 30) (upd (upd (upd (upd (S_8 1) 0 ((S_8 1 0) - (S_8 2 0))) 1 ((S_8 1 1) - (S_8 2 1))) 2 ((S_8 1 2) - (S_8 2 2))) 3 ((S_8 1 3) - (S_8 2 3))) (S_8 2) (S_8 3) (S_8 4)) (v := .int ((S_8 0 1) - ((S_1 2 2) + (S_1 2 4)))) (ty := .int) hx hb hg hin_N tyN tyN_ok nN hown hK hP hD hS 0 rfl rfl 6 (by decide) (hg _ gw_226) (fun _ h => h) rfl (by decide +kernel) rfl rfl (Nat.le_of_ble_eq_true rfl) dN_takePayment_67 rfl (fun H locs hP hD hS => ?_)
    refine lv_aload_n hx hb dN_takePayment_70 rfl (lv_at hl 2 rfl) ?_
    refine va_get (v := .ref (a 2)) hx hb hg hin_N hown hK hP 0 rfl rfl 1 (by decide) (hg _ gw_216) (fun _ h => h) rfl dN_takePayment_71 ?_
    refine lv_dup hx hb dN_takePayment_74 rfl ?_
    refine va_get (v := .int (S_8 0 20)) hx hb hg hin_A hown hK hP 2 rfl rfl 0 (by decide) (hg _ gw_178) (fun _ h => h) rfl dN_takePayment_75 ?_
    refine lv_aload_n hx hb dN_takePayment_78 rfl (lv_at hl 2 rfl) ?_
    refine va_get (v := .ref (a 5)) hx hb hg hin_N hown hK hP 0 rfl rfl 4 (by decide) (hg _ gw_222) (fun _ h => h) rfl dN_takePayment_79 ?_
    refine lv_iconst (v := 3) hx hb dN_takePayment_82 (by decide) ?_
    refine kw_iald (v := S_8 2 3) (j := 3) hx hb hK hP 5 0 rfl rfl (by unfold vp_in; decide) rfl rfl dN_takePayment_83 ?_
    refine lv_iadd hx hb dN_takePayment_84 ?_
    refine kw_put (w' := lc G a (S_8 0 0) ((S_8 0 1) - ((S_1 2 2) + (S_1 2 4))) (S_8 0 2) (S_8 0 3) (S_8 0 4) (S_8 0 5) (S_8 0 6) (S_8 0 10) (S_8 0 11) (S_8 0 12) (S_8 0 13) (S_8 0 14) (S_8 0 15) (S_8 0 16) ((S_8 0 20) + (S_8 2 3)) (S_8 0 21) (S_8 0 22) (S_8 0 30) (upd (upd (upd (upd (S_8 1) 0 ((S_8 1 0) - (S_8 2 0))) 1 ((S_8 1 1) - (S_8 2 1))) 2 ((S_8 1 2) - (S_8 2 2))) 3 ((S_8 1 3) - (S_8 2 3))) (S_8 2) (S_8 3) (S_8 4)) (v := .int ((S_8 0 20) + (S_8 2 3))) (ty := .int) hx hb hg hin_A tyA tyA_ok nA hown hK hP hD hS 2 rfl rfl 0 (by decide) (hg _ gw_178) (fun _ h => h) rfl (by decide +kernel) rfl rfl (Nat.le_of_ble_eq_true rfl) dN_takePayment_85 rfl (fun H locs hP hD hS => ?_)
    refine lv_aload_n hx hb dN_takePayment_88 rfl (lv_at hl 2 rfl) ?_
    refine lv_iconst (v := 1) hx hb dN_takePayment_89 (by decide) ?_
    refine kw_put (w' := lc G a 1 ((S_8 0 1) - ((S_1 2 2) + (S_1 2 4))) (S_8 0 2) (S_8 0 3) (S_8 0 4) (S_8 0 5) (S_8 0 6) (S_8 0 10) (S_8 0 11) (S_8 0 12) (S_8 0 13) (S_8 0 14) (S_8 0 15) (S_8 0 16) ((S_8 0 20) + (S_8 2 3)) (S_8 0 21) (S_8 0 22) (S_8 0 30) (upd (upd (upd (upd (S_8 1) 0 ((S_8 1 0) - (S_8 2 0))) 1 ((S_8 1 1) - (S_8 2 1))) 2 ((S_8 1 2) - (S_8 2 2))) 3 ((S_8 1 3) - (S_8 2 3))) (S_8 2) (S_8 3) (S_8 4)) (v := .int 1) (ty := .boolean) hx hb hg hin_N tyN tyN_ok nN hown hK hP hD hS 0 rfl rfl 5 (by decide) (hg _ gw_225) (fun _ h => h) rfl (by decide +kernel) (by decide) (by decide) (Nat.le_of_ble_eq_true rfl) dN_takePayment_90 rfl (fun H locs hP hD hS => ?_)
    refine lv_aload_n hx hb dN_takePayment_93 rfl (lv_at hl 2 rfl) ?_
    refine va_get (v := .ref (a 5)) hx hb hg hin_N hown hK hP 0 rfl rfl 4 (by decide) (hg _ gw_222) (fun _ h => h) rfl dN_takePayment_94 ?_
    refine lv_iconst (v := 4) hx hb dN_takePayment_97 (by decide) ?_
    refine kw_iald (v := S_8 2 4) (j := 4) hx hb hK hP 5 0 rfl rfl (by unfold vp_in; decide) rfl rfl dN_takePayment_98 ?_
    refine lv_if_le (tgt := 117) hx hb dN_takePayment_99 (by decide) (fun h10 => ?_) (fun h10 => ?_)
    · skip
      refine lv_aload_n hx hb dN_takePayment_117 rfl (lv_at hl 2 rfl) ?_
      refine va_get (v := .ref (a 5)) hx hb hg hin_N hown hK hP 0 rfl rfl 4 (by decide) (hg _ gw_222) (fun _ h => h) rfl dN_takePayment_118 ?_
      refine lv_iconst (v := 5) hx hb dN_takePayment_121 (by decide) ?_
      refine kw_iald (v := S_8 2 5) (j := 5) hx hb hK hP 5 0 rfl rfl (by unfold vp_in; decide) rfl rfl dN_takePayment_122 ?_
      have hk9 : kN_takePayment σ cents today = (S_8 2 5, mkL 1 ((S_8 0 1) - ((S_1 2 2) + (S_1 2 4))) (S_8 0 2) (S_8 0 3) (S_8 0 4) (S_8 0 5) (S_8 0 6) (S_8 0 10) (S_8 0 11) (S_8 0 12) (S_8 0 13) (S_8 0 14) (S_8 0 15) (S_8 0 16) ((S_8 0 20) + (S_8 2 3)) (S_8 0 21) (S_8 0 22) (S_8 0 30) (upd (upd (upd (upd (S_8 1) 0 ((S_8 1 0) - (S_8 2 0))) 1 ((S_8 1 1) - (S_8 2 1))) 2 ((S_8 1 2) - (S_8 2 2))) 3 ((S_8 1 3) - (S_8 2 3))) (S_8 2) (S_8 3) (S_8 4)) := by subst e_2 e_9; unfold kN_takePayment; rw [if_neg h3, if_pos h10]
      exact kw_iret hx hb hr hlocks hK hP hD hS (kw_fin (f := lcells G a) (S := mkL 1 ((S_8 0 1) - ((S_1 2 2) + (S_1 2 4))) (S_8 0 2) (S_8 0 3) (S_8 0 4) (S_8 0 5) (S_8 0 6) (S_8 0 10) (S_8 0 11) (S_8 0 12) (S_8 0 13) (S_8 0 14) (S_8 0 15) (S_8 0 16) ((S_8 0 20) + (S_8 2 3)) (S_8 0 21) (S_8 0 22) (S_8 0 30) (upd (upd (upd (upd (S_8 1) 0 ((S_8 1 0) - (S_8 2 0))) 1 ((S_8 1 1) - (S_8 2 1))) 2 ((S_8 1 2) - (S_8 2 2))) 3 ((S_8 1 3) - (S_8 2 3))) (S_8 2) (S_8 3) (S_8 4)) rfl hk9) dN_takePayment_123
    · skip
      refine lv_aload_n hx hb dN_takePayment_102 rfl (lv_at hl 2 rfl) ?_
      refine va_get (v := .ref (a 1)) hx hb hg hin_N hown hK hP 0 rfl rfl 0 (by decide) (hg _ gw_214) (fun _ h => h) rfl dN_takePayment_103 ?_
      refine va_get (v := .int (S_8 0 14)) hx hb hg hin_T hown hK hP 1 rfl rfl 4 (by decide) (hg _ gw_149) (fun _ h => h) rfl dN_takePayment_106 ?_
      refine lv_if_ne (tgt := 117) hx hb dN_takePayment_109 (by decide) (fun h11 => ?_) (fun h11 => ?_)
      · skip
        refine lv_aload_n hx hb dN_takePayment_117 rfl (lv_at hl 2 rfl) ?_
        refine va_get (v := .ref (a 5)) hx hb hg hin_N hown hK hP 0 rfl rfl 4 (by decide) (hg _ gw_222) (fun _ h => h) rfl dN_takePayment_118 ?_
        refine lv_iconst (v := 5) hx hb dN_takePayment_121 (by decide) ?_
        refine kw_iald (v := S_8 2 5) (j := 5) hx hb hK hP 5 0 rfl rfl (by unfold vp_in; decide) rfl rfl dN_takePayment_122 ?_
        have hk9 : kN_takePayment σ cents today = (S_8 2 5, mkL 1 ((S_8 0 1) - ((S_1 2 2) + (S_1 2 4))) (S_8 0 2) (S_8 0 3) (S_8 0 4) (S_8 0 5) (S_8 0 6) (S_8 0 10) (S_8 0 11) (S_8 0 12) (S_8 0 13) (S_8 0 14) (S_8 0 15) (S_8 0 16) ((S_8 0 20) + (S_8 2 3)) (S_8 0 21) (S_8 0 22) (S_8 0 30) (upd (upd (upd (upd (S_8 1) 0 ((S_8 1 0) - (S_8 2 0))) 1 ((S_8 1 1) - (S_8 2 1))) 2 ((S_8 1 2) - (S_8 2 2))) 3 ((S_8 1 3) - (S_8 2 3))) (S_8 2) (S_8 3) (S_8 4)) := by subst e_2 e_9; unfold kN_takePayment; rw [if_neg h3, if_neg h10, if_neg h11]
        exact kw_iret hx hb hr hlocks hK hP hD hS (kw_fin (f := lcells G a) (S := mkL 1 ((S_8 0 1) - ((S_1 2 2) + (S_1 2 4))) (S_8 0 2) (S_8 0 3) (S_8 0 4) (S_8 0 5) (S_8 0 6) (S_8 0 10) (S_8 0 11) (S_8 0 12) (S_8 0 13) (S_8 0 14) (S_8 0 15) (S_8 0 16) ((S_8 0 20) + (S_8 2 3)) (S_8 0 21) (S_8 0 22) (S_8 0 30) (upd (upd (upd (upd (S_8 1) 0 ((S_8 1 0) - (S_8 2 0))) 1 ((S_8 1 1) - (S_8 2 1))) 2 ((S_8 1 2) - (S_8 2 2))) 3 ((S_8 1 3) - (S_8 2 3))) (S_8 2) (S_8 3) (S_8 4)) rfl hk9) dN_takePayment_123
      · skip
        refine lv_aload_n hx hb dN_takePayment_112 rfl (lv_at hl 2 rfl) ?_
        refine lv_iload_n hx hb dN_takePayment_113 rfl (lv_at hl 4 rfl) ?_
        refine kw_retv0 (va_runV (C := RN) (As := [.int today]) (rest := []) ⟨hx, hb, hml, hown, hg⟩ (c_N_reckonLevel l D G a (mkL 1 ((S_8 0 1) - ((S_1 2 2) + (S_1 2 4))) (S_8 0 2) (S_8 0 3) (S_8 0 4) (S_8 0 5) (S_8 0 6) (S_8 0 10) (S_8 0 11) (S_8 0 12) (S_8 0 13) (S_8 0 14) (S_8 0 15) (S_8 0 16) ((S_8 0 20) + (S_8 2 3)) (S_8 0 21) (S_8 0 22) (S_8 0 30) (upd (upd (upd (upd (S_8 1) 0 ((S_8 1 0) - (S_8 2 0))) 1 ((S_8 1 1) - (S_8 2 1))) 2 ((S_8 1 2) - (S_8 2 2))) 3 ((S_8 1 3) - (S_8 2 3))) (S_8 2) (S_8 3) (S_8 4)) today _) ⟨kw_cB (n := 1) hg gw_265 gw_10 gw_391 (by decide +kernel) (by decide +kernel) ⟨Nat.le_of_ble_eq_true rfl, Nat.le_of_ble_eq_true rfl⟩ rfl rfl, hg _ gw_263, hg _ gw_264⟩ (kw_preV (q0 := 0) hK hP hD rfl rfl) rfl rfl hl.1 rfl (lv_room (Nat.le_of_ble_eq_true rfl)) dN_takePayment_114 ⟨Nat.le_of_ble_eq_true rfl, Nat.le_of_ble_eq_true rfl⟩) hP hD hS (fun _ h => Or.inr h) (fun H locs hP hD hS => ?_)
        obtain ⟨S_12, e_13⟩ : ∃ z : KS, (kN_reckonLevel (mkL 1 ((S_8 0 1) - ((S_1 2 2) + (S_1 2 4))) (S_8 0 2) (S_8 0 3) (S_8 0 4) (S_8 0 5) (S_8 0 6) (S_8 0 10) (S_8 0 11) (S_8 0 12) (S_8 0 13) (S_8 0 14) (S_8 0 15) (S_8 0 16) ((S_8 0 20) + (S_8 2 3)) (S_8 0 21) (S_8 0 22) (S_8 0 30) (upd (upd (upd (upd (S_8 1) 0 ((S_8 1 0) - (S_8 2 0))) 1 ((S_8 1 1) - (S_8 2 1))) 2 ((S_8 1 2) - (S_8 2 2))) 3 ((S_8 1 3) - (S_8 2 3))) (S_8 2) (S_8 3) (S_8 4)) today) = z := ⟨_, rfl⟩
        rw [e_13] at hP hD
        refine lv_aload_n hx hb dN_takePayment_117 rfl (lv_at hl 2 rfl) ?_
        refine va_get (v := .ref (a 5)) hx hb hg hin_N hown hK hP 0 rfl rfl 4 (by decide) (hg _ gw_222) (fun _ h => h) rfl dN_takePayment_118 ?_
        refine lv_iconst (v := 5) hx hb dN_takePayment_121 (by decide) ?_
        refine kw_iald (v := S_12 2 5) (j := 5) hx hb hK hP 5 0 rfl rfl (by unfold vp_in; decide) rfl rfl dN_takePayment_122 ?_
        have hk9 : kN_takePayment σ cents today = (S_12 2 5, S_12) := by subst e_2 e_9 e_13; unfold kN_takePayment; rw [if_neg h3, if_neg h10, if_pos h11]
        exact kw_iret hx hb hr hlocks hK hP hD hS (kw_fin (f := lcells G a) (S := S_12) rfl hk9) dN_takePayment_123
def kN_beginDay (σ : KS) (today : Int32) : Int32 × KS := if (kB_latestIsOf σ (today - 10)) = (0 : Int32) then (if today = (σ 0 6) then (if (((σ 0 5) + 1) - ((σ 0 5) + 1) / 12 * 12) = (0 : Int32) then (if (0 : Int32) < ((kN_accrue (kA_payCharge (mkL (σ 0 0) (σ 0 1) (σ 0 2) (σ 0 3) (σ 0 4) ((σ 0 5) + 1) (kT_dueDay (mkL (σ 0 0) (σ 0 1) (σ 0 2) (σ 0 3) (σ 0 4) ((σ 0 5) + 1) (σ 0 6) (σ 0 10) (σ 0 11) (σ 0 12) (σ 0 13) (σ 0 14) (σ 0 15) (σ 0 16) (σ 0 20) (σ 0 21) (σ 0 22) (σ 0 30) (σ 1) (σ 2) (σ 3) (σ 4)) (((σ 0 5) + 1) + 1)) (σ 0 10) (σ 0 11) (σ 0 12) (σ 0 13) (σ 0 14) (σ 0 15) (σ 0 16) (σ 0 20) (σ 0 21) (σ 0 22) (σ 0 30) (σ 1) (σ 2) (σ 3) (σ 4))) today) 0 1) then (1, (kN_makeBill (kN_accrue (kA_payCharge (mkL (σ 0 0) (σ 0 1) (σ 0 2) (σ 0 3) (σ 0 4) ((σ 0 5) + 1) (kT_dueDay (mkL (σ 0 0) (σ 0 1) (σ 0 2) (σ 0 3) (σ 0 4) ((σ 0 5) + 1) (σ 0 6) (σ 0 10) (σ 0 11) (σ 0 12) (σ 0 13) (σ 0 14) (σ 0 15) (σ 0 16) (σ 0 20) (σ 0 21) (σ 0 22) (σ 0 30) (σ 1) (σ 2) (σ 3) (σ 4)) (((σ 0 5) + 1) + 1)) (σ 0 10) (σ 0 11) (σ 0 12) (σ 0 13) (σ 0 14) (σ 0 15) (σ 0 16) (σ 0 20) (σ 0 21) (σ 0 22) (σ 0 30) (σ 1) (σ 2) (σ 3) (σ 4))) today) today)) else (if (0 : Int32) < ((kN_accrue (kA_payCharge (mkL (σ 0 0) (σ 0 1) (σ 0 2) (σ 0 3) (σ 0 4) ((σ 0 5) + 1) (kT_dueDay (mkL (σ 0 0) (σ 0 1) (σ 0 2) (σ 0 3) (σ 0 4) ((σ 0 5) + 1) (σ 0 6) (σ 0 10) (σ 0 11) (σ 0 12) (σ 0 13) (σ 0 14) (σ 0 15) (σ 0 16) (σ 0 20) (σ 0 21) (σ 0 22) (σ 0 30) (σ 1) (σ 2) (σ 3) (σ 4)) (((σ 0 5) + 1) + 1)) (σ 0 10) (σ 0 11) (σ 0 12) (σ 0 13) (σ 0 14) (σ 0 15) (σ 0 16) (σ 0 20) (σ 0 21) (σ 0 22) (σ 0 30) (σ 1) (σ 2) (σ 3) (σ 4))) today) 0 3) then (1, (kN_makeBill (kN_accrue (kA_payCharge (mkL (σ 0 0) (σ 0 1) (σ 0 2) (σ 0 3) (σ 0 4) ((σ 0 5) + 1) (kT_dueDay (mkL (σ 0 0) (σ 0 1) (σ 0 2) (σ 0 3) (σ 0 4) ((σ 0 5) + 1) (σ 0 6) (σ 0 10) (σ 0 11) (σ 0 12) (σ 0 13) (σ 0 14) (σ 0 15) (σ 0 16) (σ 0 20) (σ 0 21) (σ 0 22) (σ 0 30) (σ 1) (σ 2) (σ 3) (σ 4)) (((σ 0 5) + 1) + 1)) (σ 0 10) (σ 0 11) (σ 0 12) (σ 0 13) (σ 0 14) (σ 0 15) (σ 0 16) (σ 0 20) (σ 0 21) (σ 0 22) (σ 0 30) (σ 1) (σ 2) (σ 3) (σ 4))) today) today)) else (0, (kN_accrue (kA_payCharge (mkL (σ 0 0) (σ 0 1) (σ 0 2) (σ 0 3) (σ 0 4) ((σ 0 5) + 1) (kT_dueDay (mkL (σ 0 0) (σ 0 1) (σ 0 2) (σ 0 3) (σ 0 4) ((σ 0 5) + 1) (σ 0 6) (σ 0 10) (σ 0 11) (σ 0 12) (σ 0 13) (σ 0 14) (σ 0 15) (σ 0 16) (σ 0 20) (σ 0 21) (σ 0 22) (σ 0 30) (σ 1) (σ 2) (σ 3) (σ 4)) (((σ 0 5) + 1) + 1)) (σ 0 10) (σ 0 11) (σ 0 12) (σ 0 13) (σ 0 14) (σ 0 15) (σ 0 16) (σ 0 20) (σ 0 21) (σ 0 22) (σ 0 30) (σ 1) (σ 2) (σ 3) (σ 4))) today)))) else (if (0 : Int32) < ((kN_accrue (mkL (σ 0 0) (σ 0 1) (σ 0 2) (σ 0 3) (σ 0 4) ((σ 0 5) + 1) (kT_dueDay (mkL (σ 0 0) (σ 0 1) (σ 0 2) (σ 0 3) (σ 0 4) ((σ 0 5) + 1) (σ 0 6) (σ 0 10) (σ 0 11) (σ 0 12) (σ 0 13) (σ 0 14) (σ 0 15) (σ 0 16) (σ 0 20) (σ 0 21) (σ 0 22) (σ 0 30) (σ 1) (σ 2) (σ 3) (σ 4)) (((σ 0 5) + 1) + 1)) (σ 0 10) (σ 0 11) (σ 0 12) (σ 0 13) (σ 0 14) (σ 0 15) (σ 0 16) (σ 0 20) (σ 0 21) (σ 0 22) (σ 0 30) (σ 1) (σ 2) (σ 3) (σ 4)) today) 0 1) then (1, (kN_makeBill (kN_accrue (mkL (σ 0 0) (σ 0 1) (σ 0 2) (σ 0 3) (σ 0 4) ((σ 0 5) + 1) (kT_dueDay (mkL (σ 0 0) (σ 0 1) (σ 0 2) (σ 0 3) (σ 0 4) ((σ 0 5) + 1) (σ 0 6) (σ 0 10) (σ 0 11) (σ 0 12) (σ 0 13) (σ 0 14) (σ 0 15) (σ 0 16) (σ 0 20) (σ 0 21) (σ 0 22) (σ 0 30) (σ 1) (σ 2) (σ 3) (σ 4)) (((σ 0 5) + 1) + 1)) (σ 0 10) (σ 0 11) (σ 0 12) (σ 0 13) (σ 0 14) (σ 0 15) (σ 0 16) (σ 0 20) (σ 0 21) (σ 0 22) (σ 0 30) (σ 1) (σ 2) (σ 3) (σ 4)) today) today)) else (if (0 : Int32) < ((kN_accrue (mkL (σ 0 0) (σ 0 1) (σ 0 2) (σ 0 3) (σ 0 4) ((σ 0 5) + 1) (kT_dueDay (mkL (σ 0 0) (σ 0 1) (σ 0 2) (σ 0 3) (σ 0 4) ((σ 0 5) + 1) (σ 0 6) (σ 0 10) (σ 0 11) (σ 0 12) (σ 0 13) (σ 0 14) (σ 0 15) (σ 0 16) (σ 0 20) (σ 0 21) (σ 0 22) (σ 0 30) (σ 1) (σ 2) (σ 3) (σ 4)) (((σ 0 5) + 1) + 1)) (σ 0 10) (σ 0 11) (σ 0 12) (σ 0 13) (σ 0 14) (σ 0 15) (σ 0 16) (σ 0 20) (σ 0 21) (σ 0 22) (σ 0 30) (σ 1) (σ 2) (σ 3) (σ 4)) today) 0 3) then (1, (kN_makeBill (kN_accrue (mkL (σ 0 0) (σ 0 1) (σ 0 2) (σ 0 3) (σ 0 4) ((σ 0 5) + 1) (kT_dueDay (mkL (σ 0 0) (σ 0 1) (σ 0 2) (σ 0 3) (σ 0 4) ((σ 0 5) + 1) (σ 0 6) (σ 0 10) (σ 0 11) (σ 0 12) (σ 0 13) (σ 0 14) (σ 0 15) (σ 0 16) (σ 0 20) (σ 0 21) (σ 0 22) (σ 0 30) (σ 1) (σ 2) (σ 3) (σ 4)) (((σ 0 5) + 1) + 1)) (σ 0 10) (σ 0 11) (σ 0 12) (σ 0 13) (σ 0 14) (σ 0 15) (σ 0 16) (σ 0 20) (σ 0 21) (σ 0 22) (σ 0 30) (σ 1) (σ 2) (σ 3) (σ 4)) today) today)) else (0, (kN_accrue (mkL (σ 0 0) (σ 0 1) (σ 0 2) (σ 0 3) (σ 0 4) ((σ 0 5) + 1) (kT_dueDay (mkL (σ 0 0) (σ 0 1) (σ 0 2) (σ 0 3) (σ 0 4) ((σ 0 5) + 1) (σ 0 6) (σ 0 10) (σ 0 11) (σ 0 12) (σ 0 13) (σ 0 14) (σ 0 15) (σ 0 16) (σ 0 20) (σ 0 21) (σ 0 22) (σ 0 30) (σ 1) (σ 2) (σ 3) (σ 4)) (((σ 0 5) + 1) + 1)) (σ 0 10) (σ 0 11) (σ 0 12) (σ 0 13) (σ 0 14) (σ 0 15) (σ 0 16) (σ 0 20) (σ 0 21) (σ 0 22) (σ 0 30) (σ 1) (σ 2) (σ 3) (σ 4)) today))))) else (0, σ)) else (if today = ((kN_addLateFee σ) 0 6) then (if ((((kN_addLateFee σ) 0 5) + 1) - (((kN_addLateFee σ) 0 5) + 1) / 12 * 12) = (0 : Int32) then (if (0 : Int32) < ((kN_accrue (kA_payCharge (mkL ((kN_addLateFee σ) 0 0) ((kN_addLateFee σ) 0 1) ((kN_addLateFee σ) 0 2) ((kN_addLateFee σ) 0 3) ((kN_addLateFee σ) 0 4) (((kN_addLateFee σ) 0 5) + 1) (kT_dueDay (mkL ((kN_addLateFee σ) 0 0) ((kN_addLateFee σ) 0 1) ((kN_addLateFee σ) 0 2) ((kN_addLateFee σ) 0 3) ((kN_addLateFee σ) 0 4) (((kN_addLateFee σ) 0 5) + 1) ((kN_addLateFee σ) 0 6) ((kN_addLateFee σ) 0 10) ((kN_addLateFee σ) 0 11) ((kN_addLateFee σ) 0 12) ((kN_addLateFee σ) 0 13) ((kN_addLateFee σ) 0 14) ((kN_addLateFee σ) 0 15) ((kN_addLateFee σ) 0 16) ((kN_addLateFee σ) 0 20) ((kN_addLateFee σ) 0 21) ((kN_addLateFee σ) 0 22) ((kN_addLateFee σ) 0 30) ((kN_addLateFee σ) 1) ((kN_addLateFee σ) 2) ((kN_addLateFee σ) 3) ((kN_addLateFee σ) 4)) ((((kN_addLateFee σ) 0 5) + 1) + 1)) ((kN_addLateFee σ) 0 10) ((kN_addLateFee σ) 0 11) ((kN_addLateFee σ) 0 12) ((kN_addLateFee σ) 0 13) ((kN_addLateFee σ) 0 14) ((kN_addLateFee σ) 0 15) ((kN_addLateFee σ) 0 16) ((kN_addLateFee σ) 0 20) ((kN_addLateFee σ) 0 21) ((kN_addLateFee σ) 0 22) ((kN_addLateFee σ) 0 30) ((kN_addLateFee σ) 1) ((kN_addLateFee σ) 2) ((kN_addLateFee σ) 3) ((kN_addLateFee σ) 4))) today) 0 1) then (1, (kN_makeBill (kN_accrue (kA_payCharge (mkL ((kN_addLateFee σ) 0 0) ((kN_addLateFee σ) 0 1) ((kN_addLateFee σ) 0 2) ((kN_addLateFee σ) 0 3) ((kN_addLateFee σ) 0 4) (((kN_addLateFee σ) 0 5) + 1) (kT_dueDay (mkL ((kN_addLateFee σ) 0 0) ((kN_addLateFee σ) 0 1) ((kN_addLateFee σ) 0 2) ((kN_addLateFee σ) 0 3) ((kN_addLateFee σ) 0 4) (((kN_addLateFee σ) 0 5) + 1) ((kN_addLateFee σ) 0 6) ((kN_addLateFee σ) 0 10) ((kN_addLateFee σ) 0 11) ((kN_addLateFee σ) 0 12) ((kN_addLateFee σ) 0 13) ((kN_addLateFee σ) 0 14) ((kN_addLateFee σ) 0 15) ((kN_addLateFee σ) 0 16) ((kN_addLateFee σ) 0 20) ((kN_addLateFee σ) 0 21) ((kN_addLateFee σ) 0 22) ((kN_addLateFee σ) 0 30) ((kN_addLateFee σ) 1) ((kN_addLateFee σ) 2) ((kN_addLateFee σ) 3) ((kN_addLateFee σ) 4)) ((((kN_addLateFee σ) 0 5) + 1) + 1)) ((kN_addLateFee σ) 0 10) ((kN_addLateFee σ) 0 11) ((kN_addLateFee σ) 0 12) ((kN_addLateFee σ) 0 13) ((kN_addLateFee σ) 0 14) ((kN_addLateFee σ) 0 15) ((kN_addLateFee σ) 0 16) ((kN_addLateFee σ) 0 20) ((kN_addLateFee σ) 0 21) ((kN_addLateFee σ) 0 22) ((kN_addLateFee σ) 0 30) ((kN_addLateFee σ) 1) ((kN_addLateFee σ) 2) ((kN_addLateFee σ) 3) ((kN_addLateFee σ) 4))) today) today)) else (if (0 : Int32) < ((kN_accrue (kA_payCharge (mkL ((kN_addLateFee σ) 0 0) ((kN_addLateFee σ) 0 1) ((kN_addLateFee σ) 0 2) ((kN_addLateFee σ) 0 3) ((kN_addLateFee σ) 0 4) (((kN_addLateFee σ) 0 5) + 1) (kT_dueDay (mkL ((kN_addLateFee σ) 0 0) ((kN_addLateFee σ) 0 1) ((kN_addLateFee σ) 0 2) ((kN_addLateFee σ) 0 3) ((kN_addLateFee σ) 0 4) (((kN_addLateFee σ) 0 5) + 1) ((kN_addLateFee σ) 0 6) ((kN_addLateFee σ) 0 10) ((kN_addLateFee σ) 0 11) ((kN_addLateFee σ) 0 12) ((kN_addLateFee σ) 0 13) ((kN_addLateFee σ) 0 14) ((kN_addLateFee σ) 0 15) ((kN_addLateFee σ) 0 16) ((kN_addLateFee σ) 0 20) ((kN_addLateFee σ) 0 21) ((kN_addLateFee σ) 0 22) ((kN_addLateFee σ) 0 30) ((kN_addLateFee σ) 1) ((kN_addLateFee σ) 2) ((kN_addLateFee σ) 3) ((kN_addLateFee σ) 4)) ((((kN_addLateFee σ) 0 5) + 1) + 1)) ((kN_addLateFee σ) 0 10) ((kN_addLateFee σ) 0 11) ((kN_addLateFee σ) 0 12) ((kN_addLateFee σ) 0 13) ((kN_addLateFee σ) 0 14) ((kN_addLateFee σ) 0 15) ((kN_addLateFee σ) 0 16) ((kN_addLateFee σ) 0 20) ((kN_addLateFee σ) 0 21) ((kN_addLateFee σ) 0 22) ((kN_addLateFee σ) 0 30) ((kN_addLateFee σ) 1) ((kN_addLateFee σ) 2) ((kN_addLateFee σ) 3) ((kN_addLateFee σ) 4))) today) 0 3) then (1, (kN_makeBill (kN_accrue (kA_payCharge (mkL ((kN_addLateFee σ) 0 0) ((kN_addLateFee σ) 0 1) ((kN_addLateFee σ) 0 2) ((kN_addLateFee σ) 0 3) ((kN_addLateFee σ) 0 4) (((kN_addLateFee σ) 0 5) + 1) (kT_dueDay (mkL ((kN_addLateFee σ) 0 0) ((kN_addLateFee σ) 0 1) ((kN_addLateFee σ) 0 2) ((kN_addLateFee σ) 0 3) ((kN_addLateFee σ) 0 4) (((kN_addLateFee σ) 0 5) + 1) ((kN_addLateFee σ) 0 6) ((kN_addLateFee σ) 0 10) ((kN_addLateFee σ) 0 11) ((kN_addLateFee σ) 0 12) ((kN_addLateFee σ) 0 13) ((kN_addLateFee σ) 0 14) ((kN_addLateFee σ) 0 15) ((kN_addLateFee σ) 0 16) ((kN_addLateFee σ) 0 20) ((kN_addLateFee σ) 0 21) ((kN_addLateFee σ) 0 22) ((kN_addLateFee σ) 0 30) ((kN_addLateFee σ) 1) ((kN_addLateFee σ) 2) ((kN_addLateFee σ) 3) ((kN_addLateFee σ) 4)) ((((kN_addLateFee σ) 0 5) + 1) + 1)) ((kN_addLateFee σ) 0 10) ((kN_addLateFee σ) 0 11) ((kN_addLateFee σ) 0 12) ((kN_addLateFee σ) 0 13) ((kN_addLateFee σ) 0 14) ((kN_addLateFee σ) 0 15) ((kN_addLateFee σ) 0 16) ((kN_addLateFee σ) 0 20) ((kN_addLateFee σ) 0 21) ((kN_addLateFee σ) 0 22) ((kN_addLateFee σ) 0 30) ((kN_addLateFee σ) 1) ((kN_addLateFee σ) 2) ((kN_addLateFee σ) 3) ((kN_addLateFee σ) 4))) today) today)) else (0, (kN_accrue (kA_payCharge (mkL ((kN_addLateFee σ) 0 0) ((kN_addLateFee σ) 0 1) ((kN_addLateFee σ) 0 2) ((kN_addLateFee σ) 0 3) ((kN_addLateFee σ) 0 4) (((kN_addLateFee σ) 0 5) + 1) (kT_dueDay (mkL ((kN_addLateFee σ) 0 0) ((kN_addLateFee σ) 0 1) ((kN_addLateFee σ) 0 2) ((kN_addLateFee σ) 0 3) ((kN_addLateFee σ) 0 4) (((kN_addLateFee σ) 0 5) + 1) ((kN_addLateFee σ) 0 6) ((kN_addLateFee σ) 0 10) ((kN_addLateFee σ) 0 11) ((kN_addLateFee σ) 0 12) ((kN_addLateFee σ) 0 13) ((kN_addLateFee σ) 0 14) ((kN_addLateFee σ) 0 15) ((kN_addLateFee σ) 0 16) ((kN_addLateFee σ) 0 20) ((kN_addLateFee σ) 0 21) ((kN_addLateFee σ) 0 22) ((kN_addLateFee σ) 0 30) ((kN_addLateFee σ) 1) ((kN_addLateFee σ) 2) ((kN_addLateFee σ) 3) ((kN_addLateFee σ) 4)) ((((kN_addLateFee σ) 0 5) + 1) + 1)) ((kN_addLateFee σ) 0 10) ((kN_addLateFee σ) 0 11) ((kN_addLateFee σ) 0 12) ((kN_addLateFee σ) 0 13) ((kN_addLateFee σ) 0 14) ((kN_addLateFee σ) 0 15) ((kN_addLateFee σ) 0 16) ((kN_addLateFee σ) 0 20) ((kN_addLateFee σ) 0 21) ((kN_addLateFee σ) 0 22) ((kN_addLateFee σ) 0 30) ((kN_addLateFee σ) 1) ((kN_addLateFee σ) 2) ((kN_addLateFee σ) 3) ((kN_addLateFee σ) 4))) today)))) else (if (0 : Int32) < ((kN_accrue (mkL ((kN_addLateFee σ) 0 0) ((kN_addLateFee σ) 0 1) ((kN_addLateFee σ) 0 2) ((kN_addLateFee σ) 0 3) ((kN_addLateFee σ) 0 4) (((kN_addLateFee σ) 0 5) + 1) (kT_dueDay (mkL ((kN_addLateFee σ) 0 0) ((kN_addLateFee σ) 0 1) ((kN_addLateFee σ) 0 2) ((kN_addLateFee σ) 0 3) ((kN_addLateFee σ) 0 4) (((kN_addLateFee σ) 0 5) + 1) ((kN_addLateFee σ) 0 6) ((kN_addLateFee σ) 0 10) ((kN_addLateFee σ) 0 11) ((kN_addLateFee σ) 0 12) ((kN_addLateFee σ) 0 13) ((kN_addLateFee σ) 0 14) ((kN_addLateFee σ) 0 15) ((kN_addLateFee σ) 0 16) ((kN_addLateFee σ) 0 20) ((kN_addLateFee σ) 0 21) ((kN_addLateFee σ) 0 22) ((kN_addLateFee σ) 0 30) ((kN_addLateFee σ) 1) ((kN_addLateFee σ) 2) ((kN_addLateFee σ) 3) ((kN_addLateFee σ) 4)) ((((kN_addLateFee σ) 0 5) + 1) + 1)) ((kN_addLateFee σ) 0 10) ((kN_addLateFee σ) 0 11) ((kN_addLateFee σ) 0 12) ((kN_addLateFee σ) 0 13) ((kN_addLateFee σ) 0 14) ((kN_addLateFee σ) 0 15) ((kN_addLateFee σ) 0 16) ((kN_addLateFee σ) 0 20) ((kN_addLateFee σ) 0 21) ((kN_addLateFee σ) 0 22) ((kN_addLateFee σ) 0 30) ((kN_addLateFee σ) 1) ((kN_addLateFee σ) 2) ((kN_addLateFee σ) 3) ((kN_addLateFee σ) 4)) today) 0 1) then (1, (kN_makeBill (kN_accrue (mkL ((kN_addLateFee σ) 0 0) ((kN_addLateFee σ) 0 1) ((kN_addLateFee σ) 0 2) ((kN_addLateFee σ) 0 3) ((kN_addLateFee σ) 0 4) (((kN_addLateFee σ) 0 5) + 1) (kT_dueDay (mkL ((kN_addLateFee σ) 0 0) ((kN_addLateFee σ) 0 1) ((kN_addLateFee σ) 0 2) ((kN_addLateFee σ) 0 3) ((kN_addLateFee σ) 0 4) (((kN_addLateFee σ) 0 5) + 1) ((kN_addLateFee σ) 0 6) ((kN_addLateFee σ) 0 10) ((kN_addLateFee σ) 0 11) ((kN_addLateFee σ) 0 12) ((kN_addLateFee σ) 0 13) ((kN_addLateFee σ) 0 14) ((kN_addLateFee σ) 0 15) ((kN_addLateFee σ) 0 16) ((kN_addLateFee σ) 0 20) ((kN_addLateFee σ) 0 21) ((kN_addLateFee σ) 0 22) ((kN_addLateFee σ) 0 30) ((kN_addLateFee σ) 1) ((kN_addLateFee σ) 2) ((kN_addLateFee σ) 3) ((kN_addLateFee σ) 4)) ((((kN_addLateFee σ) 0 5) + 1) + 1)) ((kN_addLateFee σ) 0 10) ((kN_addLateFee σ) 0 11) ((kN_addLateFee σ) 0 12) ((kN_addLateFee σ) 0 13) ((kN_addLateFee σ) 0 14) ((kN_addLateFee σ) 0 15) ((kN_addLateFee σ) 0 16) ((kN_addLateFee σ) 0 20) ((kN_addLateFee σ) 0 21) ((kN_addLateFee σ) 0 22) ((kN_addLateFee σ) 0 30) ((kN_addLateFee σ) 1) ((kN_addLateFee σ) 2) ((kN_addLateFee σ) 3) ((kN_addLateFee σ) 4)) today) today)) else (if (0 : Int32) < ((kN_accrue (mkL ((kN_addLateFee σ) 0 0) ((kN_addLateFee σ) 0 1) ((kN_addLateFee σ) 0 2) ((kN_addLateFee σ) 0 3) ((kN_addLateFee σ) 0 4) (((kN_addLateFee σ) 0 5) + 1) (kT_dueDay (mkL ((kN_addLateFee σ) 0 0) ((kN_addLateFee σ) 0 1) ((kN_addLateFee σ) 0 2) ((kN_addLateFee σ) 0 3) ((kN_addLateFee σ) 0 4) (((kN_addLateFee σ) 0 5) + 1) ((kN_addLateFee σ) 0 6) ((kN_addLateFee σ) 0 10) ((kN_addLateFee σ) 0 11) ((kN_addLateFee σ) 0 12) ((kN_addLateFee σ) 0 13) ((kN_addLateFee σ) 0 14) ((kN_addLateFee σ) 0 15) ((kN_addLateFee σ) 0 16) ((kN_addLateFee σ) 0 20) ((kN_addLateFee σ) 0 21) ((kN_addLateFee σ) 0 22) ((kN_addLateFee σ) 0 30) ((kN_addLateFee σ) 1) ((kN_addLateFee σ) 2) ((kN_addLateFee σ) 3) ((kN_addLateFee σ) 4)) ((((kN_addLateFee σ) 0 5) + 1) + 1)) ((kN_addLateFee σ) 0 10) ((kN_addLateFee σ) 0 11) ((kN_addLateFee σ) 0 12) ((kN_addLateFee σ) 0 13) ((kN_addLateFee σ) 0 14) ((kN_addLateFee σ) 0 15) ((kN_addLateFee σ) 0 16) ((kN_addLateFee σ) 0 20) ((kN_addLateFee σ) 0 21) ((kN_addLateFee σ) 0 22) ((kN_addLateFee σ) 0 30) ((kN_addLateFee σ) 1) ((kN_addLateFee σ) 2) ((kN_addLateFee σ) 3) ((kN_addLateFee σ) 4)) today) 0 3) then (1, (kN_makeBill (kN_accrue (mkL ((kN_addLateFee σ) 0 0) ((kN_addLateFee σ) 0 1) ((kN_addLateFee σ) 0 2) ((kN_addLateFee σ) 0 3) ((kN_addLateFee σ) 0 4) (((kN_addLateFee σ) 0 5) + 1) (kT_dueDay (mkL ((kN_addLateFee σ) 0 0) ((kN_addLateFee σ) 0 1) ((kN_addLateFee σ) 0 2) ((kN_addLateFee σ) 0 3) ((kN_addLateFee σ) 0 4) (((kN_addLateFee σ) 0 5) + 1) ((kN_addLateFee σ) 0 6) ((kN_addLateFee σ) 0 10) ((kN_addLateFee σ) 0 11) ((kN_addLateFee σ) 0 12) ((kN_addLateFee σ) 0 13) ((kN_addLateFee σ) 0 14) ((kN_addLateFee σ) 0 15) ((kN_addLateFee σ) 0 16) ((kN_addLateFee σ) 0 20) ((kN_addLateFee σ) 0 21) ((kN_addLateFee σ) 0 22) ((kN_addLateFee σ) 0 30) ((kN_addLateFee σ) 1) ((kN_addLateFee σ) 2) ((kN_addLateFee σ) 3) ((kN_addLateFee σ) 4)) ((((kN_addLateFee σ) 0 5) + 1) + 1)) ((kN_addLateFee σ) 0 10) ((kN_addLateFee σ) 0 11) ((kN_addLateFee σ) 0 12) ((kN_addLateFee σ) 0 13) ((kN_addLateFee σ) 0 14) ((kN_addLateFee σ) 0 15) ((kN_addLateFee σ) 0 16) ((kN_addLateFee σ) 0 20) ((kN_addLateFee σ) 0 21) ((kN_addLateFee σ) 0 22) ((kN_addLateFee σ) 0 30) ((kN_addLateFee σ) 1) ((kN_addLateFee σ) 2) ((kN_addLateFee σ) 3) ((kN_addLateFee σ) 4)) today) today)) else (0, (kN_accrue (mkL ((kN_addLateFee σ) 0 0) ((kN_addLateFee σ) 0 1) ((kN_addLateFee σ) 0 2) ((kN_addLateFee σ) 0 3) ((kN_addLateFee σ) 0 4) (((kN_addLateFee σ) 0 5) + 1) (kT_dueDay (mkL ((kN_addLateFee σ) 0 0) ((kN_addLateFee σ) 0 1) ((kN_addLateFee σ) 0 2) ((kN_addLateFee σ) 0 3) ((kN_addLateFee σ) 0 4) (((kN_addLateFee σ) 0 5) + 1) ((kN_addLateFee σ) 0 6) ((kN_addLateFee σ) 0 10) ((kN_addLateFee σ) 0 11) ((kN_addLateFee σ) 0 12) ((kN_addLateFee σ) 0 13) ((kN_addLateFee σ) 0 14) ((kN_addLateFee σ) 0 15) ((kN_addLateFee σ) 0 16) ((kN_addLateFee σ) 0 20) ((kN_addLateFee σ) 0 21) ((kN_addLateFee σ) 0 22) ((kN_addLateFee σ) 0 30) ((kN_addLateFee σ) 1) ((kN_addLateFee σ) 2) ((kN_addLateFee σ) 3) ((kN_addLateFee σ) 4)) ((((kN_addLateFee σ) 0 5) + 1) + 1)) ((kN_addLateFee σ) 0 10) ((kN_addLateFee σ) 0 11) ((kN_addLateFee σ) 0 12) ((kN_addLateFee σ) 0 13) ((kN_addLateFee σ) 0 14) ((kN_addLateFee σ) 0 15) ((kN_addLateFee σ) 0 16) ((kN_addLateFee σ) 0 20) ((kN_addLateFee σ) 0 21) ((kN_addLateFee σ) 0 22) ((kN_addLateFee σ) 0 30) ((kN_addLateFee σ) 1) ((kN_addLateFee σ) 2) ((kN_addLateFee σ) 3) ((kN_addLateFee σ) 4)) today))))) else (0, (kN_addLateFee σ)))
abbrev wgN_beginDay : List Cond := .code yN_beginDay cN_beginDay 2 (some .boolean) :: GW
abbrev rm_N_beginDay : Room := { frames := 5, cells := 0, slots := 0, locals := 111 }
set_option maxRecDepth 100000 in
set_option maxHeartbeats 4000000 in
theorem c_N_beginDay (l : Launch) (D : va_G) (G : Nat → ClassId) (a : Nat → Nat) (σ : KS) (today : Int32) (sz : Nat) (cn : Nat) (hcn : σ 0 30 = nI cn) (hcl : cn ≤ 50) : Met l yN_beginDay wgN_beginDay rm_N_beginDay (kw_Pc D vwCl (gt G) [.ref (a 0), .int today] (lcells G a σ) sz) (kw_i D vwCl (gt G) (lcells G a σ) sz ((kN_beginDay σ today).1) (lcells G a (kN_beginDay σ today).2)) 0 0 (va_A (lcells G a σ) sz) := by
  refine Met.ofW (cc := cN_beginDay) (maxL := 2) (ret := (some .boolean)) (by decide) rfl ?_
  intro p e s m args below meth c s₁ B hml hv
  have hx := B.exec
  have hb := B.bytes
  have hr := B.returns
  have hts := atoms_spec (ws := wgN_beginDay) B.pre
  have hg : ∀ w ∈ GW, w.before args s = true := fun w h => hts w (List.mem_cons_of_mem _ h)
  have hown : s.vm.findClass RN = some m.cls := findClass_of_methodNamed B.named
  have hlocks := B.notSynchronized
  obtain ⟨hv, hsz, hP, hK, hD0⟩ := hv
  subst hsz
  have hD := hD0.self (sz := s.heap.size)
  have hS : va_S (va_A (lcells G a σ) s.heap.size) s.heap s.heap [] := va_S.rf
  refine kw_entry [.ref (a 0), .int today] hv (Nat.le_of_ble_eq_true rfl) (fun ls hl => ?_)
  have hl : lv_has ls 2 [(0, .ref (a 0)), (1, .int today)] := hl
  refine lv_aload_n hx hb dN_beginDay_0 rfl (lv_at hl 0 rfl) ?_
  refine va_get (v := .ref (a 3)) hx hb hg hin_N hown hK hP 0 rfl rfl 2 (by decide) (hg _ gw_218) (fun _ h => h) rfl dN_beginDay_1 ?_
  refine lv_iload_n hx hb dN_beginDay_4 rfl (lv_at hl 1 rfl) ?_
  refine lv_bipush (v := 10) hx hb dN_beginDay_5 (by decide) ?_
  refine lv_isub hx hb dN_beginDay_7 ?_
  refine kw_reti0 (va_runV (C := RB) (As := [.int (today - 10)]) (rest := []) ⟨hx, hb, hml, hown, hg⟩ (c_B_latestIsOf l D G a σ (today - 10) _ cn hcn hcl) ⟨kw_cB (n := 1) hg gw_345 gw_12 gw_342 (by decide +kernel) (by decide +kernel) ⟨Nat.le_of_ble_eq_true rfl, Nat.le_of_ble_eq_true rfl⟩ rfl rfl, hg _ gw_343, hg _ gw_344⟩ (kw_preV (q0 := 3) hK hP hD rfl rfl) rfl rfl hl.1 rfl (lv_room (Nat.le_of_ble_eq_true rfl)) dN_beginDay_8 ⟨Nat.le_of_ble_eq_true rfl, Nat.le_of_ble_eq_true rfl⟩) hP hD hS (fun _ h => Or.inr h) (fun H locs hP hD hS => ?_)
  refine lv_topi (fun r_1 e_2 => ?_)
  replace e_2 := e_2.symm
  refine lv_if_eq (tgt := 18) hx hb dN_beginDay_11 (by decide) (fun h3 => ?_) (fun h3 => ?_)
  · skip
    refine lv_iload_n hx hb dN_beginDay_18 rfl (lv_at hl 1 rfl) ?_
    refine lv_aload_n hx hb dN_beginDay_19 rfl (lv_at hl 0 rfl) ?_
    refine va_get (v := .int (σ 0 6)) hx hb hg hin_N hown hK hP 0 rfl rfl 11 (by decide) (hg _ gw_233) (fun _ h => h) rfl dN_beginDay_20 ?_
    refine lv_icmp_eq (tgt := 28) hx hb dN_beginDay_23 (by decide) (fun h4 => ?_) (fun h4 => ?_)
    · skip
      refine lv_aload_n hx hb dN_beginDay_28 rfl (lv_at hl 0 rfl) ?_
      refine lv_dup hx hb dN_beginDay_29 rfl ?_
      refine va_get (v := .int (σ 0 5)) hx hb hg hin_N hown hK hP 0 rfl rfl 10 (by decide) (hg _ gw_232) (fun _ h => h) rfl dN_beginDay_30 ?_
      refine lv_iconst (v := 1) hx hb dN_beginDay_33 (by decide) ?_
      refine lv_iadd hx hb dN_beginDay_34 ?_
      refine kw_put (w' := lc G a (σ 0 0) (σ 0 1) (σ 0 2) (σ 0 3) (σ 0 4) ((σ 0 5) + 1) (σ 0 6) (σ 0 10) (σ 0 11) (σ 0 12) (σ 0 13) (σ 0 14) (σ 0 15) (σ 0 16) (σ 0 20) (σ 0 21) (σ 0 22) (σ 0 30) (σ 1) (σ 2) (σ 3) (σ 4)) (v := .int ((σ 0 5) + 1)) (ty := .int) hx hb hg hin_N tyN tyN_ok nN hown hK hP hD hS 0 rfl rfl 10 (by decide) (hg _ gw_232) (fun _ h => h) rfl (by decide +kernel) rfl rfl (Nat.le_of_ble_eq_true rfl) dN_beginDay_35 rfl (fun H locs hP hD hS => ?_)
      refine lv_aload_n hx hb dN_beginDay_38 rfl (lv_at hl 0 rfl) ?_
      refine lv_aload_n hx hb dN_beginDay_39 rfl (lv_at hl 0 rfl) ?_
      refine va_get (v := .ref (a 1)) hx hb hg hin_N hown hK hP 0 rfl rfl 0 (by decide) (hg _ gw_214) (fun _ h => h) rfl dN_beginDay_40 ?_
      refine lv_aload_n hx hb dN_beginDay_43 rfl (lv_at hl 0 rfl) ?_
      refine va_get (v := .int ((σ 0 5) + 1)) hx hb hg hin_N hown hK hP 0 rfl rfl 10 (by decide) (hg _ gw_232) (fun _ h => h) rfl dN_beginDay_44 ?_
      refine lv_iconst (v := 1) hx hb dN_beginDay_47 (by decide) ?_
      refine lv_iadd hx hb dN_beginDay_48 ?_
      refine kw_reti0 (va_runV (C := RT) (As := [.int (((σ 0 5) + 1) + 1)]) (rest := [.ref (a 0)]) ⟨hx, hb, hml, hown, hg⟩ (c_T_dueDay l D G a (mkL (σ 0 0) (σ 0 1) (σ 0 2) (σ 0 3) (σ 0 4) ((σ 0 5) + 1) (σ 0 6) (σ 0 10) (σ 0 11) (σ 0 12) (σ 0 13) (σ 0 14) (σ 0 15) (σ 0 16) (σ 0 20) (σ 0 21) (σ 0 22) (σ 0 30) (σ 1) (σ 2) (σ 3) (σ 4)) (((σ 0 5) + 1) + 1) _) ⟨kw_cB (n := 1) hg gw_209 gw_8 gw_206 (by decide +kernel) (by decide +kernel) ⟨Nat.le_of_ble_eq_true rfl, Nat.le_of_ble_eq_true rfl⟩ rfl rfl, hg _ gw_207, hg _ gw_208⟩ (kw_preV (q0 := 1) hK hP hD rfl rfl) rfl rfl hl.1 rfl (lv_room (Nat.le_of_ble_eq_true rfl)) dN_beginDay_49 ⟨Nat.le_of_ble_eq_true rfl, Nat.le_of_ble_eq_true rfl⟩) hP hD hS (fun _ h => Or.inr h) (fun H locs hP hD hS => ?_)
      refine lv_topi (fun r_5 e_6 => ?_)
      replace e_6 := e_6.symm
      refine kw_put (w' := lc G a (σ 0 0) (σ 0 1) (σ 0 2) (σ 0 3) (σ 0 4) ((σ 0 5) + 1) r_5 (σ 0 10) (σ 0 11) (σ 0 12) (σ 0 13) (σ 0 14) (σ 0 15) (σ 0 16) (σ 0 20) (σ 0 21) (σ 0 22) (σ 0 30) (σ 1) (σ 2) (σ 3) (σ 4)) (v := .int r_5) (ty := .int) hx hb hg hin_N tyN tyN_ok nN hown hK hP hD hS 0 rfl rfl 11 (by decide) (hg _ gw_233) (fun _ h => h) rfl (by decide +kernel) rfl rfl (Nat.le_of_ble_eq_true rfl) dN_beginDay_52 rfl (fun H locs hP hD hS => ?_)
      refine lv_aload_n hx hb dN_beginDay_55 rfl (lv_at hl 0 rfl) ?_
      refine va_get (v := .int ((σ 0 5) + 1)) hx hb hg hin_N hown hK hP 0 rfl rfl 10 (by decide) (hg _ gw_232) (fun _ h => h) rfl dN_beginDay_56 ?_
      refine lv_bipush (v := 12) hx hb dN_beginDay_59 (by decide) ?_
      refine lv_irem hx hb dN_beginDay_61 (by decide) ?_
      refine lv_if_ne (tgt := 72) hx hb dN_beginDay_62 (by decide) (fun h7 => ?_) (fun h7 => ?_)
      · skip
        refine lv_aload_n hx hb dN_beginDay_72 rfl (lv_at hl 0 rfl) ?_
        refine lv_iload_n hx hb dN_beginDay_73 rfl (lv_at hl 1 rfl) ?_
        refine kw_retv0 (va_runV (C := RN) (As := [.int today]) (rest := []) ⟨hx, hb, hml, hown, hg⟩ (c_N_accrue l D G a (mkL (σ 0 0) (σ 0 1) (σ 0 2) (σ 0 3) (σ 0 4) ((σ 0 5) + 1) r_5 (σ 0 10) (σ 0 11) (σ 0 12) (σ 0 13) (σ 0 14) (σ 0 15) (σ 0 16) (σ 0 20) (σ 0 21) (σ 0 22) (σ 0 30) (σ 1) (σ 2) (σ 3) (σ 4)) today _) ⟨kw_cB (n := 1) hg gw_360 gw_10 gw_358 (by decide +kernel) (by decide +kernel) ⟨Nat.le_of_ble_eq_true rfl, Nat.le_of_ble_eq_true rfl⟩ rfl rfl, hg _ gw_359, hg _ gw_739⟩ (kw_preV (q0 := 0) hK hP hD rfl rfl) rfl rfl hl.1 rfl (lv_room (Nat.le_of_ble_eq_true rfl)) dN_beginDay_74 ⟨Nat.le_of_ble_eq_true rfl, Nat.le_of_ble_eq_true rfl⟩) hP hD hS (fun _ h => Or.inr h) (fun H locs hP hD hS => ?_)
        obtain ⟨S_8, e_9⟩ : ∃ z : KS, (kN_accrue (mkL (σ 0 0) (σ 0 1) (σ 0 2) (σ 0 3) (σ 0 4) ((σ 0 5) + 1) r_5 (σ 0 10) (σ 0 11) (σ 0 12) (σ 0 13) (σ 0 14) (σ 0 15) (σ 0 16) (σ 0 20) (σ 0 21) (σ 0 22) (σ 0 30) (σ 1) (σ 2) (σ 3) (σ 4)) today) = z := ⟨_, rfl⟩
        rw [e_9] at hP hD
        refine lv_aload_n hx hb dN_beginDay_77 rfl (lv_at hl 0 rfl) ?_
        refine va_get (v := .int (S_8 0 1)) hx hb hg hin_N hown hK hP 0 rfl rfl 6 (by decide) (hg _ gw_226) (fun _ h => h) rfl dN_beginDay_78 ?_
        refine lv_if_gt (tgt := 93) hx hb dN_beginDay_81 (by decide) (fun h10 => ?_) (fun h10 => ?_)
        · skip
          refine lv_aload_n hx hb dN_beginDay_93 rfl (lv_at hl 0 rfl) ?_
          refine lv_iload_n hx hb dN_beginDay_94 rfl (lv_at hl 1 rfl) ?_
          refine kw_retv0 (va_runV (C := RN) (As := [.int today]) (rest := []) ⟨hx, hb, hml, hown, hg⟩ (c_N_makeBill l D G a S_8 today _ cn (by subst e_2 e_6 e_9; exact hcn) hcl) ⟨kw_cB (n := 1) hg gw_367 gw_10 gw_365 (by decide +kernel) (by decide +kernel) ⟨Nat.le_of_ble_eq_true rfl, Nat.le_of_ble_eq_true rfl⟩ rfl rfl, hg _ gw_366, hg _ gw_740⟩ (kw_preV (q0 := 0) hK hP hD rfl rfl) rfl rfl hl.1 rfl (lv_room (Nat.le_of_ble_eq_true rfl)) dN_beginDay_95 ⟨Nat.le_of_ble_eq_true rfl, Nat.le_of_ble_eq_true rfl⟩) hP hD hS (fun _ h => Or.inr h) (fun H locs hP hD hS => ?_)
          obtain ⟨S_11, e_12⟩ : ∃ z : KS, (kN_makeBill S_8 today) = z := ⟨_, rfl⟩
          rw [e_12] at hP hD
          refine lv_iconst (v := 1) hx hb dN_beginDay_98 (by decide) ?_
          have hk9 : kN_beginDay σ today = (1, S_11) := by subst e_2 e_6 e_9 e_12; unfold kN_beginDay; rw [if_pos h3, if_pos h4, if_neg h7, if_pos h10]
          exact kw_zret hx hb hr (by decide) hlocks hK hP hD hS (kw_fin (f := lcells G a) (S := S_11) rfl hk9) dN_beginDay_99
        · skip
          refine lv_aload_n hx hb dN_beginDay_84 rfl (lv_at hl 0 rfl) ?_
          refine va_get (v := .int (S_8 0 3)) hx hb hg hin_N hown hK hP 0 rfl rfl 8 (by decide) (hg _ gw_230) (fun _ h => h) rfl dN_beginDay_85 ?_
          refine lv_if_gt (tgt := 93) hx hb dN_beginDay_88 (by decide) (fun h13 => ?_) (fun h13 => ?_)
          · skip
            refine lv_aload_n hx hb dN_beginDay_93 rfl (lv_at hl 0 rfl) ?_
            refine lv_iload_n hx hb dN_beginDay_94 rfl (lv_at hl 1 rfl) ?_
            refine kw_retv0 (va_runV (C := RN) (As := [.int today]) (rest := []) ⟨hx, hb, hml, hown, hg⟩ (c_N_makeBill l D G a S_8 today _ cn (by subst e_2 e_6 e_9; exact hcn) hcl) ⟨kw_cB (n := 1) hg gw_367 gw_10 gw_365 (by decide +kernel) (by decide +kernel) ⟨Nat.le_of_ble_eq_true rfl, Nat.le_of_ble_eq_true rfl⟩ rfl rfl, hg _ gw_366, hg _ gw_740⟩ (kw_preV (q0 := 0) hK hP hD rfl rfl) rfl rfl hl.1 rfl (lv_room (Nat.le_of_ble_eq_true rfl)) dN_beginDay_95 ⟨Nat.le_of_ble_eq_true rfl, Nat.le_of_ble_eq_true rfl⟩) hP hD hS (fun _ h => Or.inr h) (fun H locs hP hD hS => ?_)
            obtain ⟨S_14, e_15⟩ : ∃ z : KS, (kN_makeBill S_8 today) = z := ⟨_, rfl⟩
            rw [e_15] at hP hD
            refine lv_iconst (v := 1) hx hb dN_beginDay_98 (by decide) ?_
            have hk9 : kN_beginDay σ today = (1, S_14) := by subst e_2 e_6 e_9 e_15; unfold kN_beginDay; rw [if_pos h3, if_pos h4, if_neg h7, if_neg h10, if_pos h13]
            exact kw_zret hx hb hr (by decide) hlocks hK hP hD hS (kw_fin (f := lcells G a) (S := S_14) rfl hk9) dN_beginDay_99
          · skip
            refine lv_iconst (v := 0) hx hb dN_beginDay_91 (by decide) ?_
            have hk9 : kN_beginDay σ today = (0, S_8) := by subst e_2 e_6 e_9; unfold kN_beginDay; rw [if_pos h3, if_pos h4, if_neg h7, if_neg h10, if_neg h13]
            exact kw_zret hx hb hr (by decide) hlocks hK hP hD hS (kw_fin (f := lcells G a) (S := S_8) rfl hk9) dN_beginDay_92
      · skip
        refine lv_aload_n hx hb dN_beginDay_65 rfl (lv_at hl 0 rfl) ?_
        refine va_get (v := .ref (a 2)) hx hb hg hin_N hown hK hP 0 rfl rfl 1 (by decide) (hg _ gw_216) (fun _ h => h) rfl dN_beginDay_66 ?_
        refine kw_retv0 (va_runV (C := RA) (As := []) (rest := []) ⟨hx, hb, hml, hown, hg⟩ (c_A_payCharge l D G a (mkL (σ 0 0) (σ 0 1) (σ 0 2) (σ 0 3) (σ 0 4) ((σ 0 5) + 1) r_5 (σ 0 10) (σ 0 11) (σ 0 12) (σ 0 13) (σ 0 14) (σ 0 15) (σ 0 16) (σ 0 20) (σ 0 21) (σ 0 22) (σ 0 30) (σ 1) (σ 2) (σ 3) (σ 4))  _) ⟨kw_cB (n := 0) hg gw_354 gw_11 gw_351 (by decide +kernel) (by decide +kernel) ⟨Nat.le_of_ble_eq_true rfl, Nat.le_of_ble_eq_true rfl⟩ rfl rfl, hg _ gw_352, hg _ gw_353⟩ (kw_preV (q0 := 2) hK hP hD rfl rfl) rfl rfl hl.1 rfl (lv_room (Nat.le_of_ble_eq_true rfl)) dN_beginDay_69 ⟨Nat.le_of_ble_eq_true rfl, Nat.le_of_ble_eq_true rfl⟩) hP hD hS (fun _ h => Or.inr h) (fun H locs hP hD hS => ?_)
        obtain ⟨S_16, e_17⟩ : ∃ z : KS, (kA_payCharge (mkL (σ 0 0) (σ 0 1) (σ 0 2) (σ 0 3) (σ 0 4) ((σ 0 5) + 1) r_5 (σ 0 10) (σ 0 11) (σ 0 12) (σ 0 13) (σ 0 14) (σ 0 15) (σ 0 16) (σ 0 20) (σ 0 21) (σ 0 22) (σ 0 30) (σ 1) (σ 2) (σ 3) (σ 4))) = z := ⟨_, rfl⟩
        rw [e_17] at hP hD
        refine lv_aload_n hx hb dN_beginDay_72 rfl (lv_at hl 0 rfl) ?_
        refine lv_iload_n hx hb dN_beginDay_73 rfl (lv_at hl 1 rfl) ?_
        refine kw_retv0 (va_runV (C := RN) (As := [.int today]) (rest := []) ⟨hx, hb, hml, hown, hg⟩ (c_N_accrue l D G a S_16 today _) ⟨kw_cB (n := 1) hg gw_360 gw_10 gw_358 (by decide +kernel) (by decide +kernel) ⟨Nat.le_of_ble_eq_true rfl, Nat.le_of_ble_eq_true rfl⟩ rfl rfl, hg _ gw_359, hg _ gw_739⟩ (kw_preV (q0 := 0) hK hP hD rfl rfl) rfl rfl hl.1 rfl (lv_room (Nat.le_of_ble_eq_true rfl)) dN_beginDay_74 ⟨Nat.le_of_ble_eq_true rfl, Nat.le_of_ble_eq_true rfl⟩) hP hD hS (fun _ h => Or.inr h) (fun H locs hP hD hS => ?_)
        obtain ⟨S_18, e_19⟩ : ∃ z : KS, (kN_accrue S_16 today) = z := ⟨_, rfl⟩
        rw [e_19] at hP hD
        refine lv_aload_n hx hb dN_beginDay_77 rfl (lv_at hl 0 rfl) ?_
        refine va_get (v := .int (S_18 0 1)) hx hb hg hin_N hown hK hP 0 rfl rfl 6 (by decide) (hg _ gw_226) (fun _ h => h) rfl dN_beginDay_78 ?_
        refine lv_if_gt (tgt := 93) hx hb dN_beginDay_81 (by decide) (fun h20 => ?_) (fun h20 => ?_)
        · skip
          refine lv_aload_n hx hb dN_beginDay_93 rfl (lv_at hl 0 rfl) ?_
          refine lv_iload_n hx hb dN_beginDay_94 rfl (lv_at hl 1 rfl) ?_
          refine kw_retv0 (va_runV (C := RN) (As := [.int today]) (rest := []) ⟨hx, hb, hml, hown, hg⟩ (c_N_makeBill l D G a S_18 today _ cn (by subst e_2 e_6 e_17 e_19; exact hcn) hcl) ⟨kw_cB (n := 1) hg gw_367 gw_10 gw_365 (by decide +kernel) (by decide +kernel) ⟨Nat.le_of_ble_eq_true rfl, Nat.le_of_ble_eq_true rfl⟩ rfl rfl, hg _ gw_366, hg _ gw_740⟩ (kw_preV (q0 := 0) hK hP hD rfl rfl) rfl rfl hl.1 rfl (lv_room (Nat.le_of_ble_eq_true rfl)) dN_beginDay_95 ⟨Nat.le_of_ble_eq_true rfl, Nat.le_of_ble_eq_true rfl⟩) hP hD hS (fun _ h => Or.inr h) (fun H locs hP hD hS => ?_)
          obtain ⟨S_21, e_22⟩ : ∃ z : KS, (kN_makeBill S_18 today) = z := ⟨_, rfl⟩
          rw [e_22] at hP hD
          refine lv_iconst (v := 1) hx hb dN_beginDay_98 (by decide) ?_
          have hk9 : kN_beginDay σ today = (1, S_21) := by subst e_2 e_6 e_17 e_19 e_22; unfold kN_beginDay; rw [if_pos h3, if_pos h4, if_pos h7, if_pos h20]
          exact kw_zret hx hb hr (by decide) hlocks hK hP hD hS (kw_fin (f := lcells G a) (S := S_21) rfl hk9) dN_beginDay_99
        · skip
          refine lv_aload_n hx hb dN_beginDay_84 rfl (lv_at hl 0 rfl) ?_
          refine va_get (v := .int (S_18 0 3)) hx hb hg hin_N hown hK hP 0 rfl rfl 8 (by decide) (hg _ gw_230) (fun _ h => h) rfl dN_beginDay_85 ?_
          refine lv_if_gt (tgt := 93) hx hb dN_beginDay_88 (by decide) (fun h23 => ?_) (fun h23 => ?_)
          · skip
            refine lv_aload_n hx hb dN_beginDay_93 rfl (lv_at hl 0 rfl) ?_
            refine lv_iload_n hx hb dN_beginDay_94 rfl (lv_at hl 1 rfl) ?_
            refine kw_retv0 (va_runV (C := RN) (As := [.int today]) (rest := []) ⟨hx, hb, hml, hown, hg⟩ (c_N_makeBill l D G a S_18 today _ cn (by subst e_2 e_6 e_17 e_19; exact hcn) hcl) ⟨kw_cB (n := 1) hg gw_367 gw_10 gw_365 (by decide +kernel) (by decide +kernel) ⟨Nat.le_of_ble_eq_true rfl, Nat.le_of_ble_eq_true rfl⟩ rfl rfl, hg _ gw_366, hg _ gw_740⟩ (kw_preV (q0 := 0) hK hP hD rfl rfl) rfl rfl hl.1 rfl (lv_room (Nat.le_of_ble_eq_true rfl)) dN_beginDay_95 ⟨Nat.le_of_ble_eq_true rfl, Nat.le_of_ble_eq_true rfl⟩) hP hD hS (fun _ h => Or.inr h) (fun H locs hP hD hS => ?_)
            obtain ⟨S_24, e_25⟩ : ∃ z : KS, (kN_makeBill S_18 today) = z := ⟨_, rfl⟩
            rw [e_25] at hP hD
            refine lv_iconst (v := 1) hx hb dN_beginDay_98 (by decide) ?_
            have hk9 : kN_beginDay σ today = (1, S_24) := by subst e_2 e_6 e_17 e_19 e_25; unfold kN_beginDay; rw [if_pos h3, if_pos h4, if_pos h7, if_neg h20, if_pos h23]
            exact kw_zret hx hb hr (by decide) hlocks hK hP hD hS (kw_fin (f := lcells G a) (S := S_24) rfl hk9) dN_beginDay_99
          · skip
            refine lv_iconst (v := 0) hx hb dN_beginDay_91 (by decide) ?_
            have hk9 : kN_beginDay σ today = (0, S_18) := by subst e_2 e_6 e_17 e_19; unfold kN_beginDay; rw [if_pos h3, if_pos h4, if_pos h7, if_neg h20, if_neg h23]
            exact kw_zret hx hb hr (by decide) hlocks hK hP hD hS (kw_fin (f := lcells G a) (S := S_18) rfl hk9) dN_beginDay_92
    · skip
      refine lv_iconst (v := 0) hx hb dN_beginDay_26 (by decide) ?_
      have hk9 : kN_beginDay σ today = (0, σ) := by subst e_2; unfold kN_beginDay; rw [if_pos h3, if_neg h4]
      exact kw_zret hx hb hr (by decide) hlocks hK hP hD hS (kw_fin (f := lcells G a) (S := σ) rfl hk9) dN_beginDay_27
  · skip
    refine lv_aload_n hx hb dN_beginDay_14 rfl (lv_at hl 0 rfl) ?_
    refine kw_retv0 (va_runV (C := RN) (As := []) (rest := []) ⟨hx, hb, hml, hown, hg⟩ (c_N_addLateFee l D G a σ  _) ⟨kw_cB (n := 0) hg gw_348 gw_10 gw_346 (by decide +kernel) (by decide +kernel) ⟨Nat.le_of_ble_eq_true rfl, Nat.le_of_ble_eq_true rfl⟩ rfl rfl, hg _ gw_347, hg _ gw_738⟩ (kw_preV (q0 := 0) hK hP hD rfl rfl) rfl rfl hl.1 rfl (lv_room (Nat.le_of_ble_eq_true rfl)) dN_beginDay_15 ⟨Nat.le_of_ble_eq_true rfl, Nat.le_of_ble_eq_true rfl⟩) hP hD hS (fun _ h => Or.inr h) (fun H locs hP hD hS => ?_)
    obtain ⟨S_26, e_27⟩ : ∃ z : KS, (kN_addLateFee σ) = z := ⟨_, rfl⟩
    rw [e_27] at hP hD
    refine lv_iload_n hx hb dN_beginDay_18 rfl (lv_at hl 1 rfl) ?_
    refine lv_aload_n hx hb dN_beginDay_19 rfl (lv_at hl 0 rfl) ?_
    refine va_get (v := .int (S_26 0 6)) hx hb hg hin_N hown hK hP 0 rfl rfl 11 (by decide) (hg _ gw_233) (fun _ h => h) rfl dN_beginDay_20 ?_
    refine lv_icmp_eq (tgt := 28) hx hb dN_beginDay_23 (by decide) (fun h28 => ?_) (fun h28 => ?_)
    · skip
      refine lv_aload_n hx hb dN_beginDay_28 rfl (lv_at hl 0 rfl) ?_
      refine lv_dup hx hb dN_beginDay_29 rfl ?_
      refine va_get (v := .int (S_26 0 5)) hx hb hg hin_N hown hK hP 0 rfl rfl 10 (by decide) (hg _ gw_232) (fun _ h => h) rfl dN_beginDay_30 ?_
      refine lv_iconst (v := 1) hx hb dN_beginDay_33 (by decide) ?_
      refine lv_iadd hx hb dN_beginDay_34 ?_
      refine kw_put (w' := lc G a (S_26 0 0) (S_26 0 1) (S_26 0 2) (S_26 0 3) (S_26 0 4) ((S_26 0 5) + 1) (S_26 0 6) (S_26 0 10) (S_26 0 11) (S_26 0 12) (S_26 0 13) (S_26 0 14) (S_26 0 15) (S_26 0 16) (S_26 0 20) (S_26 0 21) (S_26 0 22) (S_26 0 30) (S_26 1) (S_26 2) (S_26 3) (S_26 4)) (v := .int ((S_26 0 5) + 1)) (ty := .int) hx hb hg hin_N tyN tyN_ok nN hown hK hP hD hS 0 rfl rfl 10 (by decide) (hg _ gw_232) (fun _ h => h) rfl (by decide +kernel) rfl rfl (Nat.le_of_ble_eq_true rfl) dN_beginDay_35 rfl (fun H locs hP hD hS => ?_)
      refine lv_aload_n hx hb dN_beginDay_38 rfl (lv_at hl 0 rfl) ?_
      refine lv_aload_n hx hb dN_beginDay_39 rfl (lv_at hl 0 rfl) ?_
      refine va_get (v := .ref (a 1)) hx hb hg hin_N hown hK hP 0 rfl rfl 0 (by decide) (hg _ gw_214) (fun _ h => h) rfl dN_beginDay_40 ?_
      refine lv_aload_n hx hb dN_beginDay_43 rfl (lv_at hl 0 rfl) ?_
      refine va_get (v := .int ((S_26 0 5) + 1)) hx hb hg hin_N hown hK hP 0 rfl rfl 10 (by decide) (hg _ gw_232) (fun _ h => h) rfl dN_beginDay_44 ?_
      refine lv_iconst (v := 1) hx hb dN_beginDay_47 (by decide) ?_
      refine lv_iadd hx hb dN_beginDay_48 ?_
      refine kw_reti0 (va_runV (C := RT) (As := [.int (((S_26 0 5) + 1) + 1)]) (rest := [.ref (a 0)]) ⟨hx, hb, hml, hown, hg⟩ (c_T_dueDay l D G a (mkL (S_26 0 0) (S_26 0 1) (S_26 0 2) (S_26 0 3) (S_26 0 4) ((S_26 0 5) + 1) (S_26 0 6) (S_26 0 10) (S_26 0 11) (S_26 0 12) (S_26 0 13) (S_26 0 14) (S_26 0 15) (S_26 0 16) (S_26 0 20) (S_26 0 21) (S_26 0 22) (S_26 0 30) (S_26 1) (S_26 2) (S_26 3) (S_26 4)) (((S_26 0 5) + 1) + 1) _) ⟨kw_cB (n := 1) hg gw_209 gw_8 gw_206 (by decide +kernel) (by decide +kernel) ⟨Nat.le_of_ble_eq_true rfl, Nat.le_of_ble_eq_true rfl⟩ rfl rfl, hg _ gw_207, hg _ gw_208⟩ (kw_preV (q0 := 1) hK hP hD rfl rfl) rfl rfl hl.1 rfl (lv_room (Nat.le_of_ble_eq_true rfl)) dN_beginDay_49 ⟨Nat.le_of_ble_eq_true rfl, Nat.le_of_ble_eq_true rfl⟩) hP hD hS (fun _ h => Or.inr h) (fun H locs hP hD hS => ?_)
      refine lv_topi (fun r_29 e_30 => ?_)
      replace e_30 := e_30.symm
      refine kw_put (w' := lc G a (S_26 0 0) (S_26 0 1) (S_26 0 2) (S_26 0 3) (S_26 0 4) ((S_26 0 5) + 1) r_29 (S_26 0 10) (S_26 0 11) (S_26 0 12) (S_26 0 13) (S_26 0 14) (S_26 0 15) (S_26 0 16) (S_26 0 20) (S_26 0 21) (S_26 0 22) (S_26 0 30) (S_26 1) (S_26 2) (S_26 3) (S_26 4)) (v := .int r_29) (ty := .int) hx hb hg hin_N tyN tyN_ok nN hown hK hP hD hS 0 rfl rfl 11 (by decide) (hg _ gw_233) (fun _ h => h) rfl (by decide +kernel) rfl rfl (Nat.le_of_ble_eq_true rfl) dN_beginDay_52 rfl (fun H locs hP hD hS => ?_)
      refine lv_aload_n hx hb dN_beginDay_55 rfl (lv_at hl 0 rfl) ?_
      refine va_get (v := .int ((S_26 0 5) + 1)) hx hb hg hin_N hown hK hP 0 rfl rfl 10 (by decide) (hg _ gw_232) (fun _ h => h) rfl dN_beginDay_56 ?_
      refine lv_bipush (v := 12) hx hb dN_beginDay_59 (by decide) ?_
      refine lv_irem hx hb dN_beginDay_61 (by decide) ?_
      refine lv_if_ne (tgt := 72) hx hb dN_beginDay_62 (by decide) (fun h31 => ?_) (fun h31 => ?_)
      · skip
        refine lv_aload_n hx hb dN_beginDay_72 rfl (lv_at hl 0 rfl) ?_
        refine lv_iload_n hx hb dN_beginDay_73 rfl (lv_at hl 1 rfl) ?_
        refine kw_retv0 (va_runV (C := RN) (As := [.int today]) (rest := []) ⟨hx, hb, hml, hown, hg⟩ (c_N_accrue l D G a (mkL (S_26 0 0) (S_26 0 1) (S_26 0 2) (S_26 0 3) (S_26 0 4) ((S_26 0 5) + 1) r_29 (S_26 0 10) (S_26 0 11) (S_26 0 12) (S_26 0 13) (S_26 0 14) (S_26 0 15) (S_26 0 16) (S_26 0 20) (S_26 0 21) (S_26 0 22) (S_26 0 30) (S_26 1) (S_26 2) (S_26 3) (S_26 4)) today _) ⟨kw_cB (n := 1) hg gw_360 gw_10 gw_358 (by decide +kernel) (by decide +kernel) ⟨Nat.le_of_ble_eq_true rfl, Nat.le_of_ble_eq_true rfl⟩ rfl rfl, hg _ gw_359, hg _ gw_739⟩ (kw_preV (q0 := 0) hK hP hD rfl rfl) rfl rfl hl.1 rfl (lv_room (Nat.le_of_ble_eq_true rfl)) dN_beginDay_74 ⟨Nat.le_of_ble_eq_true rfl, Nat.le_of_ble_eq_true rfl⟩) hP hD hS (fun _ h => Or.inr h) (fun H locs hP hD hS => ?_)
        obtain ⟨S_32, e_33⟩ : ∃ z : KS, (kN_accrue (mkL (S_26 0 0) (S_26 0 1) (S_26 0 2) (S_26 0 3) (S_26 0 4) ((S_26 0 5) + 1) r_29 (S_26 0 10) (S_26 0 11) (S_26 0 12) (S_26 0 13) (S_26 0 14) (S_26 0 15) (S_26 0 16) (S_26 0 20) (S_26 0 21) (S_26 0 22) (S_26 0 30) (S_26 1) (S_26 2) (S_26 3) (S_26 4)) today) = z := ⟨_, rfl⟩
        rw [e_33] at hP hD
        refine lv_aload_n hx hb dN_beginDay_77 rfl (lv_at hl 0 rfl) ?_
        refine va_get (v := .int (S_32 0 1)) hx hb hg hin_N hown hK hP 0 rfl rfl 6 (by decide) (hg _ gw_226) (fun _ h => h) rfl dN_beginDay_78 ?_
        refine lv_if_gt (tgt := 93) hx hb dN_beginDay_81 (by decide) (fun h34 => ?_) (fun h34 => ?_)
        · skip
          refine lv_aload_n hx hb dN_beginDay_93 rfl (lv_at hl 0 rfl) ?_
          refine lv_iload_n hx hb dN_beginDay_94 rfl (lv_at hl 1 rfl) ?_
          refine kw_retv0 (va_runV (C := RN) (As := [.int today]) (rest := []) ⟨hx, hb, hml, hown, hg⟩ (c_N_makeBill l D G a S_32 today _ cn (by subst e_2 e_27 e_30 e_33; exact hcn) hcl) ⟨kw_cB (n := 1) hg gw_367 gw_10 gw_365 (by decide +kernel) (by decide +kernel) ⟨Nat.le_of_ble_eq_true rfl, Nat.le_of_ble_eq_true rfl⟩ rfl rfl, hg _ gw_366, hg _ gw_740⟩ (kw_preV (q0 := 0) hK hP hD rfl rfl) rfl rfl hl.1 rfl (lv_room (Nat.le_of_ble_eq_true rfl)) dN_beginDay_95 ⟨Nat.le_of_ble_eq_true rfl, Nat.le_of_ble_eq_true rfl⟩) hP hD hS (fun _ h => Or.inr h) (fun H locs hP hD hS => ?_)
          obtain ⟨S_35, e_36⟩ : ∃ z : KS, (kN_makeBill S_32 today) = z := ⟨_, rfl⟩
          rw [e_36] at hP hD
          refine lv_iconst (v := 1) hx hb dN_beginDay_98 (by decide) ?_
          have hk9 : kN_beginDay σ today = (1, S_35) := by subst e_2 e_27 e_30 e_33 e_36; unfold kN_beginDay; rw [if_neg h3, if_pos h28, if_neg h31, if_pos h34]
          exact kw_zret hx hb hr (by decide) hlocks hK hP hD hS (kw_fin (f := lcells G a) (S := S_35) rfl hk9) dN_beginDay_99
        · skip
          refine lv_aload_n hx hb dN_beginDay_84 rfl (lv_at hl 0 rfl) ?_
          refine va_get (v := .int (S_32 0 3)) hx hb hg hin_N hown hK hP 0 rfl rfl 8 (by decide) (hg _ gw_230) (fun _ h => h) rfl dN_beginDay_85 ?_
          refine lv_if_gt (tgt := 93) hx hb dN_beginDay_88 (by decide) (fun h37 => ?_) (fun h37 => ?_)
          · skip
            refine lv_aload_n hx hb dN_beginDay_93 rfl (lv_at hl 0 rfl) ?_
            refine lv_iload_n hx hb dN_beginDay_94 rfl (lv_at hl 1 rfl) ?_
            refine kw_retv0 (va_runV (C := RN) (As := [.int today]) (rest := []) ⟨hx, hb, hml, hown, hg⟩ (c_N_makeBill l D G a S_32 today _ cn (by subst e_2 e_27 e_30 e_33; exact hcn) hcl) ⟨kw_cB (n := 1) hg gw_367 gw_10 gw_365 (by decide +kernel) (by decide +kernel) ⟨Nat.le_of_ble_eq_true rfl, Nat.le_of_ble_eq_true rfl⟩ rfl rfl, hg _ gw_366, hg _ gw_740⟩ (kw_preV (q0 := 0) hK hP hD rfl rfl) rfl rfl hl.1 rfl (lv_room (Nat.le_of_ble_eq_true rfl)) dN_beginDay_95 ⟨Nat.le_of_ble_eq_true rfl, Nat.le_of_ble_eq_true rfl⟩) hP hD hS (fun _ h => Or.inr h) (fun H locs hP hD hS => ?_)
            obtain ⟨S_38, e_39⟩ : ∃ z : KS, (kN_makeBill S_32 today) = z := ⟨_, rfl⟩
            rw [e_39] at hP hD
            refine lv_iconst (v := 1) hx hb dN_beginDay_98 (by decide) ?_
            have hk9 : kN_beginDay σ today = (1, S_38) := by subst e_2 e_27 e_30 e_33 e_39; unfold kN_beginDay; rw [if_neg h3, if_pos h28, if_neg h31, if_neg h34, if_pos h37]
            exact kw_zret hx hb hr (by decide) hlocks hK hP hD hS (kw_fin (f := lcells G a) (S := S_38) rfl hk9) dN_beginDay_99
          · skip
            refine lv_iconst (v := 0) hx hb dN_beginDay_91 (by decide) ?_
            have hk9 : kN_beginDay σ today = (0, S_32) := by subst e_2 e_27 e_30 e_33; unfold kN_beginDay; rw [if_neg h3, if_pos h28, if_neg h31, if_neg h34, if_neg h37]
            exact kw_zret hx hb hr (by decide) hlocks hK hP hD hS (kw_fin (f := lcells G a) (S := S_32) rfl hk9) dN_beginDay_92
      · skip
        refine lv_aload_n hx hb dN_beginDay_65 rfl (lv_at hl 0 rfl) ?_
        refine va_get (v := .ref (a 2)) hx hb hg hin_N hown hK hP 0 rfl rfl 1 (by decide) (hg _ gw_216) (fun _ h => h) rfl dN_beginDay_66 ?_
        refine kw_retv0 (va_runV (C := RA) (As := []) (rest := []) ⟨hx, hb, hml, hown, hg⟩ (c_A_payCharge l D G a (mkL (S_26 0 0) (S_26 0 1) (S_26 0 2) (S_26 0 3) (S_26 0 4) ((S_26 0 5) + 1) r_29 (S_26 0 10) (S_26 0 11) (S_26 0 12) (S_26 0 13) (S_26 0 14) (S_26 0 15) (S_26 0 16) (S_26 0 20) (S_26 0 21) (S_26 0 22) (S_26 0 30) (S_26 1) (S_26 2) (S_26 3) (S_26 4))  _) ⟨kw_cB (n := 0) hg gw_354 gw_11 gw_351 (by decide +kernel) (by decide +kernel) ⟨Nat.le_of_ble_eq_true rfl, Nat.le_of_ble_eq_true rfl⟩ rfl rfl, hg _ gw_352, hg _ gw_353⟩ (kw_preV (q0 := 2) hK hP hD rfl rfl) rfl rfl hl.1 rfl (lv_room (Nat.le_of_ble_eq_true rfl)) dN_beginDay_69 ⟨Nat.le_of_ble_eq_true rfl, Nat.le_of_ble_eq_true rfl⟩) hP hD hS (fun _ h => Or.inr h) (fun H locs hP hD hS => ?_)
        obtain ⟨S_40, e_41⟩ : ∃ z : KS, (kA_payCharge (mkL (S_26 0 0) (S_26 0 1) (S_26 0 2) (S_26 0 3) (S_26 0 4) ((S_26 0 5) + 1) r_29 (S_26 0 10) (S_26 0 11) (S_26 0 12) (S_26 0 13) (S_26 0 14) (S_26 0 15) (S_26 0 16) (S_26 0 20) (S_26 0 21) (S_26 0 22) (S_26 0 30) (S_26 1) (S_26 2) (S_26 3) (S_26 4))) = z := ⟨_, rfl⟩
        rw [e_41] at hP hD
        refine lv_aload_n hx hb dN_beginDay_72 rfl (lv_at hl 0 rfl) ?_
        refine lv_iload_n hx hb dN_beginDay_73 rfl (lv_at hl 1 rfl) ?_
        refine kw_retv0 (va_runV (C := RN) (As := [.int today]) (rest := []) ⟨hx, hb, hml, hown, hg⟩ (c_N_accrue l D G a S_40 today _) ⟨kw_cB (n := 1) hg gw_360 gw_10 gw_358 (by decide +kernel) (by decide +kernel) ⟨Nat.le_of_ble_eq_true rfl, Nat.le_of_ble_eq_true rfl⟩ rfl rfl, hg _ gw_359, hg _ gw_739⟩ (kw_preV (q0 := 0) hK hP hD rfl rfl) rfl rfl hl.1 rfl (lv_room (Nat.le_of_ble_eq_true rfl)) dN_beginDay_74 ⟨Nat.le_of_ble_eq_true rfl, Nat.le_of_ble_eq_true rfl⟩) hP hD hS (fun _ h => Or.inr h) (fun H locs hP hD hS => ?_)
        obtain ⟨S_42, e_43⟩ : ∃ z : KS, (kN_accrue S_40 today) = z := ⟨_, rfl⟩
        rw [e_43] at hP hD
        refine lv_aload_n hx hb dN_beginDay_77 rfl (lv_at hl 0 rfl) ?_
        refine va_get (v := .int (S_42 0 1)) hx hb hg hin_N hown hK hP 0 rfl rfl 6 (by decide) (hg _ gw_226) (fun _ h => h) rfl dN_beginDay_78 ?_
        refine lv_if_gt (tgt := 93) hx hb dN_beginDay_81 (by decide) (fun h44 => ?_) (fun h44 => ?_)
        · skip
          refine lv_aload_n hx hb dN_beginDay_93 rfl (lv_at hl 0 rfl) ?_
          refine lv_iload_n hx hb dN_beginDay_94 rfl (lv_at hl 1 rfl) ?_
          refine kw_retv0 (va_runV (C := RN) (As := [.int today]) (rest := []) ⟨hx, hb, hml, hown, hg⟩ (c_N_makeBill l D G a S_42 today _ cn (by subst e_2 e_27 e_30 e_41 e_43; exact hcn) hcl) ⟨kw_cB (n := 1) hg gw_367 gw_10 gw_365 (by decide +kernel) (by decide +kernel) ⟨Nat.le_of_ble_eq_true rfl, Nat.le_of_ble_eq_true rfl⟩ rfl rfl, hg _ gw_366, hg _ gw_740⟩ (kw_preV (q0 := 0) hK hP hD rfl rfl) rfl rfl hl.1 rfl (lv_room (Nat.le_of_ble_eq_true rfl)) dN_beginDay_95 ⟨Nat.le_of_ble_eq_true rfl, Nat.le_of_ble_eq_true rfl⟩) hP hD hS (fun _ h => Or.inr h) (fun H locs hP hD hS => ?_)
          obtain ⟨S_45, e_46⟩ : ∃ z : KS, (kN_makeBill S_42 today) = z := ⟨_, rfl⟩
          rw [e_46] at hP hD
          refine lv_iconst (v := 1) hx hb dN_beginDay_98 (by decide) ?_
          have hk9 : kN_beginDay σ today = (1, S_45) := by subst e_2 e_27 e_30 e_41 e_43 e_46; unfold kN_beginDay; rw [if_neg h3, if_pos h28, if_pos h31, if_pos h44]
          exact kw_zret hx hb hr (by decide) hlocks hK hP hD hS (kw_fin (f := lcells G a) (S := S_45) rfl hk9) dN_beginDay_99
        · skip
          refine lv_aload_n hx hb dN_beginDay_84 rfl (lv_at hl 0 rfl) ?_
          refine va_get (v := .int (S_42 0 3)) hx hb hg hin_N hown hK hP 0 rfl rfl 8 (by decide) (hg _ gw_230) (fun _ h => h) rfl dN_beginDay_85 ?_
          refine lv_if_gt (tgt := 93) hx hb dN_beginDay_88 (by decide) (fun h47 => ?_) (fun h47 => ?_)
          · skip
            refine lv_aload_n hx hb dN_beginDay_93 rfl (lv_at hl 0 rfl) ?_
            refine lv_iload_n hx hb dN_beginDay_94 rfl (lv_at hl 1 rfl) ?_
            refine kw_retv0 (va_runV (C := RN) (As := [.int today]) (rest := []) ⟨hx, hb, hml, hown, hg⟩ (c_N_makeBill l D G a S_42 today _ cn (by subst e_2 e_27 e_30 e_41 e_43; exact hcn) hcl) ⟨kw_cB (n := 1) hg gw_367 gw_10 gw_365 (by decide +kernel) (by decide +kernel) ⟨Nat.le_of_ble_eq_true rfl, Nat.le_of_ble_eq_true rfl⟩ rfl rfl, hg _ gw_366, hg _ gw_740⟩ (kw_preV (q0 := 0) hK hP hD rfl rfl) rfl rfl hl.1 rfl (lv_room (Nat.le_of_ble_eq_true rfl)) dN_beginDay_95 ⟨Nat.le_of_ble_eq_true rfl, Nat.le_of_ble_eq_true rfl⟩) hP hD hS (fun _ h => Or.inr h) (fun H locs hP hD hS => ?_)
            obtain ⟨S_48, e_49⟩ : ∃ z : KS, (kN_makeBill S_42 today) = z := ⟨_, rfl⟩
            rw [e_49] at hP hD
            refine lv_iconst (v := 1) hx hb dN_beginDay_98 (by decide) ?_
            have hk9 : kN_beginDay σ today = (1, S_48) := by subst e_2 e_27 e_30 e_41 e_43 e_49; unfold kN_beginDay; rw [if_neg h3, if_pos h28, if_pos h31, if_neg h44, if_pos h47]
            exact kw_zret hx hb hr (by decide) hlocks hK hP hD hS (kw_fin (f := lcells G a) (S := S_48) rfl hk9) dN_beginDay_99
          · skip
            refine lv_iconst (v := 0) hx hb dN_beginDay_91 (by decide) ?_
            have hk9 : kN_beginDay σ today = (0, S_42) := by subst e_2 e_27 e_30 e_41 e_43; unfold kN_beginDay; rw [if_neg h3, if_pos h28, if_pos h31, if_neg h44, if_neg h47]
            exact kw_zret hx hb hr (by decide) hlocks hK hP hD hS (kw_fin (f := lcells G a) (S := S_42) rfl hk9) dN_beginDay_92
    · skip
      refine lv_iconst (v := 0) hx hb dN_beginDay_26 (by decide) ?_
      have hk9 : kN_beginDay σ today = (0, S_26) := by subst e_2 e_27; unfold kN_beginDay; rw [if_neg h3, if_neg h28]
      exact kw_zret hx hb hr (by decide) hlocks hK hP hD hS (kw_fin (f := lcells G a) (S := S_26) rfl hk9) dN_beginDay_27
