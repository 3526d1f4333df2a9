/-! the law, from its entry to its end -/
theorem kl_arrs {args : Array Value} {s : State} (hg : ∀ w ∈ GW, w.before args s = true) (hAO : va_AO "LoanDesk$Loan" s) : ∃ G : Nat → ClassId, ∀ (k : Nat) (q : ClassId × FieldType), (gt G)[k]? = some q → ArrOfT s q.1 q.2 ∧ va_RA s q.1 q.2 := by
  obtain ⟨c0, k0, p0, a0, b0, d0⟩ := Cond.arrayClass_spec (hg _ gw_205)
  obtain ⟨c1, k1, p1, a1, b1, d1⟩ := Cond.arrayClass_spec (hg _ gw_579)
  obtain ⟨c2, k2, p2, a2, b2, d2⟩ := Cond.arrayClass_spec (hg _ gw_731)
  obtain ⟨p3, c3, k3, a3, _, b3, d3, e3⟩ := Cond.arrayOver_spec (va_AO.use (A := args) hAO)
  refine ⟨fun n => match n with | 0 => c0 | 1 => c1 | 2 => c2 | _ => c3, fun k q hq => ?_⟩
  match k, hq with
  | 0, hq =>
    cases hq
    exact ⟨fun n z => ⟨fun k h => (by cases h), k0, b0, p0, d0⟩, a0⟩
  | 1, hq =>
    cases hq
    exact ⟨fun n z => ⟨fun k h => (by cases h), k1, b1, p1, d1⟩, a1⟩
  | 2, hq =>
    cases hq
    exact ⟨fun n z => ⟨fun k h => (by cases h), k2, b2, p2, d2⟩, a2⟩
  | 3, hq =>
    cases hq
    exact ⟨fun n z => ⟨fun k h => (by cases h), k3, b3, p3, d3⟩, k3, p3, b3, d3, a3, e3⟩
  | k + 4, hq => cases hq
theorem kl_known {args : Array Value} {s : State} (hg : ∀ w ∈ GW, w.before args s = true) : ∃ D : va_G, ∀ (c : Nat) (q : vw_C), vwCl[c]? = some q → u_Kn s q.1 q.2.1 q.2.2 (D.1 c) (D.2 c) := by
  obtain ⟨c0, i0, h0⟩ := u_known (C := RD) (T := TD) (N := 3) hg hin_D (hg _ gw_19)
  obtain ⟨c1, i1, h1⟩ := u_known (C := RA) (T := TA) (N := 3) hg hin_A (hg _ gw_173)
  obtain ⟨c2, i2, h2⟩ := u_known (C := RB) (T := TB) (N := 2) hg hin_B (hg _ gw_192)
  obtain ⟨c3, i3, h3⟩ := u_known (C := RN) (T := TN) (N := 13) hg hin_N (hg _ gw_167)
  obtain ⟨c4, i4, h4⟩ := u_known (C := RT) (T := TT) (N := 7) hg hin_T (hg _ gw_133)
  obtain ⟨c5, i5, h5⟩ := u_known (C := RM) (T := TM) (N := 28) hg hin_M (hg _ gw_489)
  refine ⟨(fun n => match n with | 0 => c0 | 1 => c1 | 2 => c2 | 3 => c3 | 4 => c4 | _ => c5, fun n => match n with | 0 => i0 | 1 => i1 | 2 => i2 | 3 => i3 | 4 => i4 | _ => i5), fun c q hq => ?_⟩
  match c, hq with
  | 0, hq =>
    cases hq
    exact h0
  | 1, hq =>
    cases hq
    exact h1
  | 2, hq =>
    cases hq
    exact h2
  | 3, hq =>
    cases hq
    exact h3
  | 4, hq =>
    cases hq
    exact h4
  | 5, hq =>
    cases hq
    exact h5
  | c + 6, hq => cases hq
theorem kt_all_tbl : ∀ w ∈ kt_all, w ∈ lw_tbl := by decide +kernel
theorem kl_E {s : State} {b : Nat} (hts : ∀ w ∈ lw_tbl, w.before #[Value.ref b] s = true) (hgv : (Jvm.Cond.and given_1 narrow_1).before #[Value.ref b] s = true) {A : Nat → Prop} (hA : ∀ a : Nat, a < s.heap.size → ¬ A a) : kt_E A s ∧ kl_N s ∧ va_AO "LoanDesk$Loan" s := by
  have hs := flat_of_before _ hgv
  refine ⟨⟨⟨fun w hw => va_Nw.of (kt_all_tab w hw) (hts w (kt_all_tbl w hw)), va_Nw.of rfl (hts _ (by decide +kernel)), va_Nw.of rfl (hts _ (by decide +kernel))⟩, ?_, ?_⟩, ?_, va_AO.of (hts _ (by decide +kernel))⟩
  · exact vx_Zqof (hts _ (by decide +kernel)) (hts _ (by decide +kernel)) (hs _ (by decide +kernel)) hA
  · exact vx_Zqof (hts _ (by decide +kernel)) (hts _ (by decide +kernel)) (hs _ (by decide +kernel)) hA
  · exact ⟨va_Nc.of (hs _ (by decide +kernel)), va_Nc.of (hs _ (by decide +kernel)), va_Nc.of (hs _ (by decide +kernel)), va_Nc.of (hs _ (by decide +kernel)), va_Nc.of (hs _ (by decide +kernel))⟩
set_option maxRecDepth 100000 in
set_option maxHeartbeats 4000000 in
theorem lw_loop {p : Program} {l : Launch} {e : Env} {s : State} {m : MethodId} {below : List Frame} {meth : Method} {c : Code} (hlt : l.stackTraces = false) (hx : p.tables.exec = Jvm.exec) (hb : c.code = cL_law) (hml : c.maxLocals = 7) (hr : meth.sig.returnType = ret) (hlocks : meth.locks = false) (hown : s.vm.findClass RL = some m.cls) {sb L : Nat} (hg : ∀ w ∈ GW, w.before #[Value.ref sb] s = true) {D : va_G} {G : Nat → ClassId} (hK : va_K D vwCl (gt G) s) (hE : kt_E (va_A [] s.heap.size) s) (hN : kl_N s) {xs : Nat → Int32} (hX : va_X sb L xs s s.heap) (hbl : sb < s.heap.size) (hbA : ¬ va_A [] s.heap.size sb) (hL : L ≤ 3584) {hd ha ho : Nat} {b : Nat → Nat} : ∀ (r j : Nat) (z : kZ) (σ : KS) (u : Int32 × Int32 × Int32) (ls : Array Slot) (H : Heap) (locs : List Loc), j + r = 513 → 7 * j ≤ L → rd z.1 σ z.2.2.2 → kz_g z → va_P D vwCl (kz_w G hd ha ho z ++ mcells G b (scr σ u)) H → va_D (va_A [] s.heap.size) (kz_w G hd ha ho z ++ mcells G b (scr σ u)) → va_S (va_A [] s.heap.size) s.heap H locs → lv_has ls 7 [(4, .int (nI (7 * j))), (0, .ref sb), (1, .ref hd), (2, .ref (b 0)), (3, .ref ho)] → W p l e room_1 s m #[Value.ref sb] below meth c H locs (30 + 8 * j) (1100 + 321 * j) (lw_Z below #[Value.ref sb] s) (F0 m 23 ls []) := by
  intro r
  induction r with
  | zero =>
    intro j z σ u ls H locs hj hjL
    omega
  | succ r ih =>
    intro j z σ u ls H locs hj hjL hrd hgz hP hD hS hl
    have hA : ∀ q, s.heap.size ≤ q → va_A [] s.heap.size q := fun q h => Or.inr h
    refine lv_iload hx hb dL_law_23 (lv_at hl 0 rfl) ?_
    refine lv_aload_n hx hb dL_law_25 rfl (lv_at hl 1 rfl) ?_
    refine va_slen hx hb hX hbl hbA hS dL_law_26 ?_
    refine lv_bipush (v := 7) hx hb dL_law_27 (by decide) ?_
    refine lv_isub hx hb dL_law_29 ?_
    refine lv_icmp_gt (tgt := 1183) hx hb dL_law_30 (by decide) (fun _ => ?_) (fun h => ?_)
    · refine lv_iconst (v := 1) hx hb dL_law_1183 (by decide) ?_
      refine va_forget (fun q hq => ?_) ?_
      · rcases hS.2.2 q hq with ⟨k, e, h⟩ | h
        · cases h
        · exact h
      refine W.widen (k := 601024) (n := 7293034) (by omega) (by omega) ?_
      exact lw_ret hx hb hr hlocks dL_law_1184
    · have hi : 7 * j + 7 ≤ L := by
        rcases Nat.lt_or_ge L (7 * j + 7) with q | q
        · exfalso
          apply h
          show nI L - nI 7 < nI (7 * j)
          rw [Int32.lt_iff_toInt_lt, pk_sub_toInt (by omega) (by omega), nI_toInt (by omega)]
          omega
        · exact q
      refine lv_aload_n hx hb dL_law_33 rfl (lv_at hl 1 rfl) ?_
      refine lv_iload hx hb dL_law_34 (lv_at hl 0 rfl) ?_
      refine va_sld hx hb hX hbl hbA hS (vp_in_nI (by omega) (by omega)) dL_law_36 ?_
      refine lv_bipush (v := 15) hx hb dL_law_37 (by decide) ?_
      refine lv_iand hx hb dL_law_39 ?_
      obtain ⟨n, hn, en⟩ := pk_andE (xs (nI (7 * j)).toNatClampNeg) (m := 15) 4 (by decide)
      rw [en]
      have hR : 10 ≤ room_1.frames ∧ 300 ≤ room_1.locals := ⟨Nat.le_of_ble_eq_true rfl, Nat.le_of_ble_eq_true rfl⟩
      have hcs : 30 + 8 * j + 8 ≤ room_1.cells ∧ 1100 + 321 * j + 321 ≤ room_1.slots := ⟨(by show 30 + 8 * j + 8 ≤ 601024; omega), (by show 1100 + 321 * j + 321 ≤ 7293034; omega)⟩
      have hL31 : L < 2 ^ 31 := by omega
      have kk : ∀ (z : kZ) (σ : KS) (u : Int32 × Int32 × Int32) (ls : Array Slot) (H : Heap) (locs : List Loc), rd z.1 σ z.2.2.2 → kz_g z → va_P D vwCl (kz_w G hd ha ho z ++ mcells G b (scr σ u)) H → va_D (va_A [] s.heap.size) (kz_w G hd ha ho z ++ mcells G b (scr σ u)) → va_S (va_A [] s.heap.size) s.heap H locs → lv_has ls 7 [(4, .int (nI (7 * j))), (0, .ref sb), (1, .ref hd), (2, .ref (b 0)), (3, .ref ho)] → W p l e room_1 s m #[Value.ref sb] below meth c H locs (30 + 8 * j + 8) (1100 + 321 * j + 321) (lw_Z below #[Value.ref sb] s) (F0 m 1177 ls []) := fun z σ u ls H locs hrd hgz hP hD hS hl => by
        refine lv_iinc (k := 0) (v := nI (7 * (j + 1))) hx hb dL_law_1177 hl rfl ((nI_add (7 * j) 7).trans (by rw [show 7 * j + 7 = 7 * (j + 1) by omega])) (by decide) rfl (fun ls hl => ?_)
        refine lv_goto (tgt := 23) hx hb dL_law_1180 (by decide) ?_
        refine W.widen (k := 30 + 8 * (j + 1)) (n := 1100 + 321 * (j + 1)) (by omega) (by omega) ?_
        exact ih (j + 1) z σ u ls H locs (by omega) (by omega) hrd hgz hP hD hS hl
      have h16 : n = 0 ∨ n = 1 ∨ n = 2 ∨ n = 3 ∨ n = 4 ∨ n = 5 ∨ n = 6 ∨ n = 7 ∨ n = 8 ∨ n = 9 ∨ n = 10 ∨ n = 11 ∨ n = 12 ∨ n = 13 ∨ n = 14 ∨ n = 15 := by omega
      rcases h16 with rfl | rfl | rfl | rfl | rfl | rfl | rfl | rfl | rfl | rfl | rfl | rfl | rfl | rfl | rfl | rfl
      · refine lv_tableIn (tgt := 120) hx hb dL_law_40 (by decide) (by decide) rfl (by decide) ?_
        exact lw_open hlt hx hb hml hown hg hK hA hE hN hX hbl hbA hR hi hL31 hcs z σ u hrd hgz hP hD hS hl kk
      · refine lv_tableIn (tgt := 254) hx hb dL_law_40 (by decide) (by decide) rfl (by decide) ?_
        exact lw_charge hlt hx hb hml hown hg hK hA hE hN hX hbl hbA hR hi hL31 hcs z σ u hrd hgz hP hD hS hl kk
      · refine lv_tableIn (tgt := 302) hx hb dL_law_40 (by decide) (by decide) rfl (by decide) ?_
        exact lw_advance hlt hx hb hml hown hg hK hA hE hN hX hbl hbA hR hi hL31 hcs z σ u hrd hgz hP hD hS hl kk
      · refine lv_tableIn (tgt := 358) hx hb dL_law_40 (by decide) (by decide) rfl (by decide) ?_
        exact lw_pay hlt hx hb hml hown hg hK hA hE hN hX hbl hbA hR hi hL31 hcs z σ u hrd hgz hP hD hS hl kk
      · refine lv_tableIn (tgt := 426) hx hb dL_law_40 (by decide) (by decide) rfl (by decide) ?_
        exact lw_part hlt hx hb hml hown hg hK hA hE hN hX hbl hbA hR hi hL31 hcs z σ u hrd hgz hP hD hS hl kk
      · refine lv_tableIn (tgt := 494) hx hb dL_law_40 (by decide) (by decide) rfl (by decide) ?_
        exact lw_date hlt hx hb hml hown hg hK hA hE hN hX hbl hbA hR hi hL31 hcs z σ u hrd hgz hP hD hS hl kk
      · refine lv_tableIn (tgt := 507) hx hb dL_law_40 (by decide) (by decide) rfl (by decide) ?_
        exact lw_due hlt hx hb hml hown hg hK hA hE hN hX hbl hbA hR hi hL31 hcs z σ u hrd hgz hP hD hS hl kk
      · refine lv_tableIn (tgt := 575) hx hb dL_law_40 (by decide) (by decide) rfl (by decide) ?_
        exact lw_principal hlt hx hb hml hown hg hK hA hE hN hX hbl hbA hR hi hL31 hcs z σ u hrd hgz hP hD hS hl kk
      · refine lv_tableIn (tgt := 631) hx hb dL_law_40 (by decide) (by decide) rfl (by decide) ?_
        exact lw_level hlt hx hb hml hown hg hK hA hE hN hX hbl hbA hR hi hL31 hcs z σ u hrd hgz hP hD hS hl kk
      · refine lv_tableIn (tgt := 687) hx hb dL_law_40 (by decide) (by decide) rfl (by decide) ?_
        exact lw_accrued hlt hx hb hml hown hg hK hA hE hN hX hbl hbA hR hi hL31 hcs z σ u hrd hgz hP hD hS hl kk
      · refine lv_tableIn (tgt := 743) hx hb dL_law_40 (by decide) (by decide) rfl (by decide) ?_
        exact lw_owed hlt hx hb hml hown hg hK hA hE hN hX hbl hbA hR hi hL31 hcs z σ u hrd hgz hP hD hS hl kk
      · refine lv_tableIn (tgt := 811) hx hb dL_law_40 (by decide) (by decide) rfl (by decide) ?_
        exact lw_escrow hlt hx hb hml hown hg hK hA hE hN hX hbl hbA hR hi hL31 hcs z σ u hrd hgz hP hD hS hl kk
      · refine lv_tableIn (tgt := 867) hx hb dL_law_40 (by decide) (by decide) rfl (by decide) ?_
        exact lw_deposit hlt hx hb hml hown hg hK hA hE hN hX hbl hbA hR hi hL31 hcs z σ u hrd hgz hP hD hS hl kk
      · refine lv_tableIn (tgt := 923) hx hb dL_law_40 (by decide) (by decide) rfl (by decide) ?_
        exact lw_bills hlt hx hb hml hown hg hK hA hE hN hX hbl hbA hR hi hL31 hcs z σ u hrd hgz hP hD hS hl kk
      · refine lv_tableIn (tgt := 979) hx hb dL_law_40 (by decide) (by decide) rfl (by decide) ?_
        exact lw_bill hlt hx hb hml hown hg hK hA hE hN hX hbl hbA hR hi hL31 hcs z σ u hrd hgz hP hD hS hl kk
      · refine lv_tableIn (tgt := 1059) hx hb dL_law_40 (by decide) (by decide) rfl (by decide) ?_
        exact lw_interest hlt hx hb hml hown hg hK hA hE hN hX hbl hbA hR hi hL31 hcs z σ u hrd hgz hP hD hS hl kk
theorem kl_blindD {D : va_G} {G : Nat → ClassId} {av : List Value} {ws : va_W} {sz : Nat} : FrameBlind (fun v U => kw_Pc D vwCl (gt G) av ws sz v U ∧ va_AO "LoanDesk$Loan" U) := fun a U g mk q => ⟨kw_blind a U g mk q.1, va_AO.moved (u := U) (U := U.calling g mk a) (Vm.Alike.refl U.vm) q.2⟩
set_option maxRecDepth 100000 in
set_option maxHeartbeats 4000000 in
theorem whole_start {p : Program} {e : Env} {s : State} {m : MethodId} {below : List Frame} {meth : Method} {c : Code} (l : Launch) (hlt : l.stackTraces = false) {b L : Nat} {xs : Nat → Int32} (hL : L ≤ 3584) (C0 : lw_At p s m meth c b L xs) : W p l e room_1 s m #[Value.ref b] below meth c s.heap [] 0 0 (lw_Z below #[Value.ref b] s) (entryFrame m ([Value.ref b] : List Value).toArray 7) := by
  obtain ⟨hx, hb, hr, hml, hown, hts, hX, hbl, hlocks, hgv⟩ := C0
  have hg : ∀ w ∈ GW, w.before #[Value.ref b] s = true := fun w h => hts w (GW_tbl w h)
  have hb : c.code = cL_law := hb
  have hown : s.vm.findClass RL = some m.cls := hown
  have hbA : ¬ va_A [] s.heap.size b := fun h => by
    rcases h with ⟨k, e, h⟩ | h
    · cases h
    · exact absurd hbl (Nat.not_lt.2 h)
  obtain ⟨hE, hN, hAO⟩ := kl_E (A := va_A [] s.heap.size) hts hgv (fun a ha h => by
    rcases h with ⟨k, e, h⟩ | h
    · cases h
    · exact absurd ha (Nat.not_lt.2 h))
  obtain ⟨D, hK1⟩ := kl_known hg
  obtain ⟨G, hK2⟩ := kl_arrs hg hAO
  have hK : va_K D vwCl (gt G) s := ⟨hK1, hK2⟩
  have hA : ∀ q, s.heap.size ≤ q → va_A [] s.heap.size q := fun q h => Or.inr h
  have hP : va_P D vwCl [] s.heap := fun k q h => by cases h
  have hD : va_D (va_A [] s.heap.size) [] := ⟨fun i j x y h => (by cases h), fun k q h => (by cases h)⟩
  have hS : va_S (va_A [] s.heap.size) s.heap s.heap [] := va_S.rf
  refine kw_entry [.ref b] rfl (Nat.le_of_ble_eq_true rfl) (fun ls hl => ?_)
  have hl : lv_has ls 7 [(0, .ref b)] := hl
  refine va_new (ci := 0) (fs := [.null, .int 0, .int 0]) (C := RD) (T := TD) (N := 3) hx hb hg hin_D tyD tyD_ok hown (hg _ gw_18) (hg _ gw_19) (hg _ gw_1) hK hP hD hS hA rfl (fun j hj => by match j, hj with | 0, _ => rfl | 1, _ => rfl | 2, _ => rfl) (Nat.le_of_ble_eq_true rfl) (Nat.le_of_ble_eq_true rfl) dL_law_0 (fun hd H hP hD hS => ?_)
  have hP : va_P D vwCl [(hd, .inr (0, [.null, .int 0, .int 0]))] H := hP
  have hD : va_D (va_A [] s.heap.size) [(hd, .inr (0, [.null, .int 0, .int 0]))] := hD
  refine lv_dup hx hb dL_law_3 rfl ?_
  refine kc_retv (wc := [(hd, .inr (0, [.null, .int 0, .int 0]))]) (wr := []) (f := fun q : Nat => dtl G hd q 0 0 (fun _ => none) []) (va_runI (As := []) (rest := [.ref hd]) ⟨hx, hb, hml, hown, hg⟩ (c_D_init l D G hd _) ⟨kw_cB (n := 0) hg gw_22 gw_1 gw_20 (by decide +kernel) (by decide +kernel) ⟨Nat.le_of_ble_eq_true rfl, Nat.le_of_ble_eq_true rfl⟩ rfl rfl, rfl, hg _ gw_21⟩ ⟨kl_blindD, fun U hU hW => ⟨kw_at hK hP hD hU hW, va_AO.moved hW.alike hAO⟩⟩ rfl rfl hl.1 rfl (lv_room (Nat.le_of_ble_eq_true rfl)) dL_law_4 ⟨Nat.le_of_ble_eq_true rfl, Nat.le_of_ble_eq_true rfl⟩) hP hD hS hA (fun ha H locs _ hP hD hS => ?_)
  have hP : va_P D vwCl (dtl G hd ha 0 0 (fun _ => none) []) H := hP
  have hD : va_D (va_A [] s.heap.size) (dtl G hd ha 0 0 (fun _ => none) []) := hD
  refine lv_astore_n hx hb dL_law_7 rfl hl (by decide) rfl (fun ls hl => ?_)
  have hl : lv_has ls 7 [(1, .ref hd), (0, .ref b)] := hl
  refine va_new (ci := 5) (fs := [.int 0, .int 0, .int 0, .null, .null, .null, .null, .null, .null, .null, .null, .null, .null, .null, .null, .null, .null, .null, .null, .null, .null, .null, .null, .null, .null, .int 0, .int 0, .int 0]) (C := RM) (T := TM) (N := 28) hx hb hg hin_M tyM tyM_ok hown (hg _ gw_488) (hg _ gw_489) (hg _ gw_2) hK hP hD hS hA rfl (fun j hj => by match j, hj with | 0, _ => rfl | 1, _ => rfl | 2, _ => rfl | 3, _ => rfl | 4, _ => rfl | 5, _ => rfl | 6, _ => rfl | 7, _ => rfl | 8, _ => rfl | 9, _ => rfl | 10, _ => rfl | 11, _ => rfl | 12, _ => rfl | 13, _ => rfl | 14, _ => rfl | 15, _ => rfl | 16, _ => rfl | 17, _ => rfl | 18, _ => rfl | 19, _ => rfl | 20, _ => rfl | 21, _ => rfl | 22, _ => rfl | 23, _ => rfl | 24, _ => rfl | 25, _ => rfl | 26, _ => rfl | 27, _ => rfl | j + 28, hj => exact absurd hj (by omega)) (Nat.le_of_ble_eq_true rfl) (Nat.le_of_ble_eq_true rfl) dL_law_8 (fun hm H hP hD hS => ?_)
  have hq : ([(hm, .inr (5, [.int 0, .int 0, .int 0, .null, .null, .null, .null, .null, .null, .null, .null, .null, .null, .null, .null, .null, .null, .null, .null, .null, .null, .null, .null, .null, .null, .int 0, .int 0, .int 0]))] ++ dtl G hd ha 0 0 (fun _ => none) [] : va_W).Perm (dtl G hd ha 0 0 (fun _ => none) [] ++ [(hm, .inr (5, [.int 0, .int 0, .int 0, .null, .null, .null, .null, .null, .null, .null, .null, .null, .null, .null, .null, .null, .null, .null, .null, .null, .null, .null, .null, .null, .null, .int 0, .int 0, .int 0]))]) := List.perm_append_comm
  have hP := kw_Pp hP hq
  have hD := kw_Dp hD hq
  refine lv_dup hx hb dL_law_11 rfl ?_
  refine kc_retv (wc := [(hm, .inr (5, [.int 0, .int 0, .int 0, .null, .null, .null, .null, .null, .null, .null, .null, .null, .null, .null, .null, .null, .null, .null, .null, .null, .null, .null, .null, .null, .null, .int 0, .int 0, .int 0]))]) (wr := dtl G hd ha 0 0 (fun _ => none) []) (f := fun b : Nat → Nat => mcells G b km0) (va_runI (As := []) (rest := [.ref hm]) ⟨hx, hb, hml, hown, hg⟩ (c_M_init l D G hm _) ⟨kw_cB (n := 0) hg gw_492 gw_2 gw_490 (by decide +kernel) (by decide +kernel) ⟨Nat.le_of_ble_eq_true rfl, Nat.le_of_ble_eq_true rfl⟩ rfl rfl, rfl, hg _ gw_491⟩ (kw_preS hK (kw_Pl hP) (kw_Dl hD)) rfl rfl hl.1 rfl (lv_room (Nat.le_of_ble_eq_true rfl)) dL_law_12 ⟨Nat.le_of_ble_eq_true rfl, Nat.le_of_ble_eq_true rfl⟩) hP hD hS hA (fun bb H locs hb0 hP hD hS => ?_)
  rw [← show bb 0 = hm from hb0]
  refine lv_astore_n hx hb dL_law_15 rfl hl (by decide) rfl (fun ls hl => ?_)
  have hl : lv_has ls 7 [(2, .ref (bb 0)), (1, .ref hd), (0, .ref b)] := hl
  refine lv_iconst (v := 1) hx hb dL_law_16 (by decide) ?_
  refine kw_newa (n := 1) (atype := .long) (cI := G 2) (N' := 1) (a0 := (1, .inr (.inl (fun _ => 0)))) (ty := .long) 2 rfl (fun _ _ h1 h2 => Option.some.inj (h1.symm.trans h2)) hx hb (hg _ gw_731) rfl hK hP hD hS hA (fun _ => rfl) (by decide) (by decide) (by decide) (by exact Nat.le_of_ble_eq_true rfl) (by exact Nat.le_of_ble_eq_true rfl) dL_law_17 (fun ho H hP hD hS => ?_)
  have hq2 : (kz_w G hd ha ho ([], fun _ => 0, fun _ => none, 0) ++ mcells G bb (scr km0 (0, 0, 0))).Perm ((mcells G bb km0 ++ dtl G hd ha 0 0 (fun _ => none) []) ++ ocl G ho (fun _ => 0)) := by
    show ((ocl G ho (fun _ => 0) ++ dtl G hd ha 0 0 (fun _ => none) []) ++ mcells G bb km0).Perm _
    refine List.perm_append_comm.trans ?_
    rw [List.append_assoc]
    exact List.Perm.append_left _ List.perm_append_comm
  have hP := kw_Pp hP hq2
  have hD := kw_Dp hD hq2
  refine lv_astore_n hx hb dL_law_19 rfl hl (by decide) rfl (fun ls hl => ?_)
  refine lv_iconst (v := 0) hx hb dL_law_20 (by decide) ?_
  refine lv_istore hx hb dL_law_21 hl (by decide) rfl (fun ls hl => ?_)
  have hl : lv_has ls 7 [(4, .int 0), (3, .ref ho), (2, .ref (bb 0)), (1, .ref hd), (0, .ref b)] := hl
  refine W.widen (k := 30 + 8 * 0) (n := 1100 + 321 * 0) (Nat.le_of_ble_eq_true rfl) (Nat.le_of_ble_eq_true rfl) ?_
  exact lw_loop hlt hx hb hml hr hlocks hown hg hK hE hN hX hbl hbA hL 513 0 ([], fun _ => 0, fun _ => none, 0) km0 (0, 0, 0) ls H _ rfl (Nat.zero_le _) rd_start (fun i a hi => by cases hi) hP hD hS (lv_sub hl [0, 4, 3, 2, 1] rfl)
