/-! the law: the cases of its switch -/
set_option maxRecDepth 100000 in
set_option maxHeartbeats 4000000 in
theorem lw_open {p : Program} {l : Launch} {e : Env} {R : Room} {s : State} {m : MethodId} {args : Array Value} {below : List Frame} {meth : Method} {c : Code} {H : Heap} {locs : List Loc} {cells slots : Nat} {Q : State → Prop} {ls : Array Slot} (hlt : l.stackTraces = false) (hx : p.tables.exec = Jvm.exec) (hb : c.code = cL_law) (hml : c.maxLocals = 7) (hown : s.vm.findClass RL = some m.cls) (hg : ∀ w ∈ GW, w.before args s = true) {D : va_G} {G : Nat → ClassId} (hK : va_K D vwCl (gt G) s) {A : Nat → Prop} (hA : ∀ q, s.heap.size ≤ q → A q) (hE : kt_E A s) (hN : kl_N s) {sb L : Nat} {xs : Nat → Int32} (hX : va_X sb L xs s s.heap) (hbl : sb < s.heap.size) (hbA : ¬ A sb) (hR : 10 ≤ R.frames ∧ 300 ≤ R.locals) {hd ha ho : Nat} {b : Nat → Nat} {i : Nat} (hi : i + 7 ≤ L) (hL : L < 2 ^ 31) (hcs : cells + 8 ≤ R.cells ∧ slots + 321 ≤ R.slots) (z : kZ) (σ : KS) (u : Int32 × Int32 × Int32) (hrd : rd z.1 σ z.2.2.2) (hgz : kz_g z) (hP : va_P D vwCl (kz_w G hd ha ho z ++ mcells G b (scr σ u)) H) (hD : va_D A (kz_w G hd ha ho z ++ mcells G b (scr σ u))) (hS : va_S A s.heap H locs) (hl : lv_has ls 7 [(4, .int (nI i)), (0, .ref sb), (1, .ref hd), (2, .ref (b 0)), (3, .ref ho)])
    (kk : ∀ (z : kZ) (σ : KS) (u : Int32 × Int32 × Int32) (ls : Array Slot) (H : Heap) (locs : List Loc), rd z.1 σ z.2.2.2 → kz_g z → va_P D vwCl (kz_w G hd ha ho z ++ mcells G b (scr σ u)) H → va_D A (kz_w G hd ha ho z ++ mcells G b (scr σ u)) → va_S A s.heap H locs → lv_has ls 7 [(4, .int (nI i)), (0, .ref sb), (1, .ref hd), (2, .ref (b 0)), (3, .ref ho)] → W p l e R s m args below meth c H locs (cells + 8) (slots + 321) Q (F0 m 1177 ls [])) :
    W p l e R s m args below meth c H locs cells slots Q (F0 m 120 ls []) := by
  refine lv_aload_n hx hb dL_law_120 rfl (lv_at hl 2 rfl) ?_
  refine lv_aload_n hx hb dL_law_121 rfl (lv_at hl 1 rfl) ?_
  refine lv_iload hx hb dL_law_122 (lv_at hl 0 rfl) ?_
  refine lv_iconst (v := 1) hx hb dL_law_124 (by decide) ?_
  refine lv_iadd hx hb dL_law_125 ?_
  refine ks_ld hx hb hX hbl hbA hS 1 (by omega) hL rfl dL_law_126 ?_
  refine lv_aload_n hx hb dL_law_127 rfl (lv_at hl 1 rfl) ?_
  refine lv_iload hx hb dL_law_128 (lv_at hl 0 rfl) ?_
  refine lv_iconst (v := 2) hx hb dL_law_130 (by decide) ?_
  refine lv_iadd hx hb dL_law_131 ?_
  refine ks_ld hx hb hX hbl hbA hS 2 (by omega) hL rfl dL_law_132 ?_
  refine lv_aload_n hx hb dL_law_133 rfl (lv_at hl 1 rfl) ?_
  refine lv_iload hx hb dL_law_134 (lv_at hl 0 rfl) ?_
  refine lv_iconst (v := 3) hx hb dL_law_136 (by decide) ?_
  refine lv_iadd hx hb dL_law_137 ?_
  refine ks_ld hx hb hX hbl hbA hS 3 (by omega) hL rfl dL_law_138 ?_
  refine lv_aload_n hx hb dL_law_139 rfl (lv_at hl 1 rfl) ?_
  refine lv_iload hx hb dL_law_140 (lv_at hl 0 rfl) ?_
  refine lv_iconst (v := 4) hx hb dL_law_142 (by decide) ?_
  refine lv_iadd hx hb dL_law_143 ?_
  refine ks_ld hx hb hX hbl hbA hS 4 (by omega) hL rfl dL_law_144 ?_
  refine lv_aload_n hx hb dL_law_145 rfl (lv_at hl 1 rfl) ?_
  refine lv_iload hx hb dL_law_146 (lv_at hl 0 rfl) ?_
  refine lv_iconst (v := 5) hx hb dL_law_148 (by decide) ?_
  refine lv_iadd hx hb dL_law_149 ?_
  refine ks_ld hx hb hX hbl hbA hS 5 (by omega) hL rfl dL_law_150 ?_
  refine lv_aload_n hx hb dL_law_151 rfl (lv_at hl 1 rfl) ?_
  refine lv_iload hx hb dL_law_152 (lv_at hl 0 rfl) ?_
  refine lv_bipush (v := 6) hx hb dL_law_154 (by decide) ?_
  refine lv_iadd hx hb dL_law_156 ?_
  refine ks_ld hx hb hX hbl hbA hS 6 (by omega) hL rfl dL_law_157 ?_
  have key : W p l e R s m args below meth c H locs cells slots Q (F0 m 166 ls [.int (bz (xs (i + 6))), .int (xs (i + 5)), .int (xs (i + 4)), .int (xs (i + 3)), .int (xs (i + 2)), .int (xs (i + 1)), .ref hd]) → W p l e R s m args below meth c H locs cells slots Q (F0 m 158 ls [.int (xs (i + 6)), .int (xs (i + 5)), .int (xs (i + 4)), .int (xs (i + 3)), .int (xs (i + 2)), .int (xs (i + 1)), .ref hd]) := fun kj => by
    refine lv_if_eq (tgt := 165) hx hb dL_law_158 (by decide) (fun h => ?_) (fun h => ?_)
    · refine lv_iconst (v := 0) hx hb dL_law_165 (by decide) ?_
      have e0 : bz (xs (i + 6)) = 0 := if_pos h
      rw [e0] at kj
      exact kj
    · refine lv_iconst (v := 1) hx hb dL_law_161 (by decide) ?_
      refine lv_goto (tgt := 166) hx hb dL_law_162 (by decide) ?_
      have e0 : bz (xs (i + 6)) = 1 := if_neg h
      rw [e0] at kj
      exact kj
  refine key ?_
  clear key
  refine lv_aload_n hx hb dL_law_166 rfl (lv_at hl 4 rfl) ?_
  obtain ⟨mc, ms, hmc, hms, hM⟩ := km_open l hlt D G hd ha ho z σ hrd hgz (xs (i + 1)) (xs (i + 2)) (xs (i + 3)) (xs (i + 4)) (xs (i + 5)) (bz (xs (i + 6))) (bz_in _)
  refine kg_reti (wc := kz_w G hd ha ho z) (wr := mcells G b (scr σ u)) (vx_runSW (As := [.ref hd, .int (xs (i + 1)), .int (xs (i + 2)), .int (xs (i + 3)), .int (xs (i + 4)), .int (xs (i + 5)), .int (bz (xs (i + 6))), .ref ho]) (rest := []) ⟨hx, hb, hml, hown, hg⟩ (hM _) (kl_cSW (n := 8) hg gw_53 gw_0 gw_51 gw_52 (by decide +kernel) (by decide +kernel) ⟨Nat.le_trans (Nat.le_of_ble_eq_true rfl) hR.1, Nat.le_trans (Nat.le_of_ble_eq_true rfl) hR.2⟩ rfl rfl) (kl_preS hK (kw_Pl hP) (kw_Dl hD) hE hN hS (kw_free hD hS hA)) rfl rfl hl.1 rfl (lv_room (Nat.le_of_ble_eq_true rfl)) dL_law_167 ⟨(by omega), (by omega)⟩) hP hD hS hA (fun k z2 H locs hpo hP hD hS => ?_)
  refine W.widen (k := cells + 8) (n := slots + 321) (by omega) (by omega) ?_
  refine lv_istore hx hb dL_law_170 hl (by decide) rfl (fun ls hl => ?_)
  have hl : lv_has ls 7 [(5, .int k), (4, .int (nI i)), (0, .ref sb), (1, .ref hd), (2, .ref (b 0)), (3, .ref ho)] := hl
  refine lv_aload_n hx hb dL_law_172 rfl (lv_at hl 4 rfl) ?_
  refine lv_aload_n hx hb dL_law_173 rfl (lv_at hl 2 rfl) ?_
  refine lv_iload hx hb dL_law_174 (lv_at hl 1 rfl) ?_
  refine lv_iconst (v := 1) hx hb dL_law_176 (by decide) ?_
  refine lv_iadd hx hb dL_law_177 ?_
  refine ks_ld hx hb hX hbl hbA hS 1 (by omega) hL rfl dL_law_178 ?_
  refine lv_aload_n hx hb dL_law_179 rfl (lv_at hl 2 rfl) ?_
  refine lv_iload hx hb dL_law_180 (lv_at hl 1 rfl) ?_
  refine lv_iconst (v := 2) hx hb dL_law_182 (by decide) ?_
  refine lv_iadd hx hb dL_law_183 ?_
  refine ks_ld hx hb hX hbl hbA hS 2 (by omega) hL rfl dL_law_184 ?_
  refine lv_aload_n hx hb dL_law_185 rfl (lv_at hl 2 rfl) ?_
  refine lv_iload hx hb dL_law_186 (lv_at hl 1 rfl) ?_
  refine lv_iconst (v := 3) hx hb dL_law_188 (by decide) ?_
  refine lv_iadd hx hb dL_law_189 ?_
  refine ks_ld hx hb hX hbl hbA hS 3 (by omega) hL rfl dL_law_190 ?_
  refine lv_aload_n hx hb dL_law_191 rfl (lv_at hl 2 rfl) ?_
  refine lv_iload hx hb dL_law_192 (lv_at hl 1 rfl) ?_
  refine lv_iconst (v := 4) hx hb dL_law_194 (by decide) ?_
  refine lv_iadd hx hb dL_law_195 ?_
  refine ks_ld hx hb hX hbl hbA hS 4 (by omega) hL rfl dL_law_196 ?_
  refine lv_aload_n hx hb dL_law_197 rfl (lv_at hl 2 rfl) ?_
  refine lv_iload hx hb dL_law_198 (lv_at hl 1 rfl) ?_
  refine lv_iconst (v := 5) hx hb dL_law_200 (by decide) ?_
  refine lv_iadd hx hb dL_law_201 ?_
  refine ks_ld hx hb hX hbl hbA hS 5 (by omega) hL rfl dL_law_202 ?_
  refine lv_aload_n hx hb dL_law_203 rfl (lv_at hl 2 rfl) ?_
  refine lv_iload hx hb dL_law_204 (lv_at hl 1 rfl) ?_
  refine lv_bipush (v := 6) hx hb dL_law_206 (by decide) ?_
  refine lv_iadd hx hb dL_law_208 ?_
  refine ks_ld hx hb hX hbl hbA hS 6 (by omega) hL rfl dL_law_209 ?_
  have key : W p l e R s m args below meth c H locs (cells + 8) (slots + 321) Q (F0 m 218 ls [.int (bz (xs (i + 6))), .int (xs (i + 5)), .int (xs (i + 4)), .int (xs (i + 3)), .int (xs (i + 2)), .int (xs (i + 1)), .ref (b 0)]) → W p l e R s m args below meth c H locs (cells + 8) (slots + 321) Q (F0 m 210 ls [.int (xs (i + 6)), .int (xs (i + 5)), .int (xs (i + 4)), .int (xs (i + 3)), .int (xs (i + 2)), .int (xs (i + 1)), .ref (b 0)]) := fun kj => by
    refine lv_if_eq (tgt := 217) hx hb dL_law_210 (by decide) (fun h => ?_) (fun h => ?_)
    · refine lv_iconst (v := 0) hx hb dL_law_217 (by decide) ?_
      have e0 : bz (xs (i + 6)) = 0 := if_pos h
      rw [e0] at kj
      exact kj
    · refine lv_iconst (v := 1) hx hb dL_law_213 (by decide) ?_
      refine lv_goto (tgt := 218) hx hb dL_law_214 (by decide) ?_
      have e0 : bz (xs (i + 6)) = 1 := if_neg h
      rw [e0] at kj
      exact kj
  refine key ?_
  clear key
  have hq : (mcells G b (scr σ u) ++ kz_w G hd ha ho z2).Perm (kz_w G hd ha ho z2 ++ mcells G b (scr σ u)) := List.perm_append_comm
  refine kg_reti (wc := mcells G b (scr σ u)) (wr := kz_w G hd ha ho z2) (va_runV (C := RM) (As := [.int (xs (i + 1)), .int (xs (i + 2)), .int (xs (i + 3)), .int (xs (i + 4)), .int (xs (i + 5)), .int (bz (xs (i + 6)))]) (rest := []) ⟨hx, hb, hml, hown, hg⟩ (c_M_open l D G b σ u (xs (i + 1)) (xs (i + 2)) (xs (i + 3)) (xs (i + 4)) (xs (i + 5)) (bz (xs (i + 6))) _ _ hrd.2.2.1 hrd.2.2.2.1 (bz_in _) (rd_open_hpp hrd _ _ _ _ _ _)) ⟨kw_cB (n := 6) hg gw_626 gw_2 gw_623 (by decide +kernel) (by decide +kernel) ⟨Nat.le_trans (Nat.le_of_ble_eq_true rfl) hR.1, Nat.le_trans (Nat.le_of_ble_eq_true rfl) hR.2⟩ rfl rfl, hg _ gw_624, hg _ gw_625⟩ (kw_preV (q0 := 0) hK (kw_Pl (kw_Pp hP hq)) (kw_Dl (kw_Dp hD hq)) rfl rfl) rfl rfl hl.1 rfl (lv_room (Nat.le_of_ble_eq_true rfl)) dL_law_218 ⟨(by show (cells + 8) + 0 ≤ R.cells; omega), (by show (slots + 321) + 0 ≤ R.slots; omega)⟩) (kw_Pp hP hq) (kw_Dp hD hq) hS hA (fun r u2 H locs hr2 hP hD hS => ?_)
  have hP := kw_Pp hP (List.perm_append_comm : (kz_w G hd ha ho z2 ++ mcells G b (scr (kM_open σ (xs (i + 1)) (xs (i + 2)) (xs (i + 3)) (xs (i + 4)) (xs (i + 5)) (bz (xs (i + 6)))).2 u2)).Perm (mcells G b (scr (kM_open σ (xs (i + 1)) (xs (i + 2)) (xs (i + 3)) (xs (i + 4)) (xs (i + 5)) (bz (xs (i + 6)))).2 u2) ++ kz_w G hd ha ho z2))
  have hD := kw_Dp hD (List.perm_append_comm : (kz_w G hd ha ho z2 ++ mcells G b (scr (kM_open σ (xs (i + 1)) (xs (i + 2)) (xs (i + 3)) (xs (i + 4)) (xs (i + 5)) (bz (xs (i + 6)))).2 u2)).Perm (mcells G b (scr (kM_open σ (xs (i + 1)) (xs (i + 2)) (xs (i + 3)) (xs (i + 4)) (xs (i + 5)) (bz (xs (i + 6)))).2 u2) ++ kz_w G hd ha ho z2))
  refine lv_istore hx hb dL_law_221 hl (by decide) rfl (fun ls hl => ?_)
  have hl : lv_has ls 7 [(6, .int r), (5, .int k), (4, .int (nI i)), (0, .ref sb), (1, .ref hd), (2, .ref (b 0)), (3, .ref ho)] := hl
  refine lv_aload_n hx hb dL_law_223 rfl (lv_at hl 5 rfl) ?_
  have hq : (mcells G b (scr (kM_open σ (xs (i + 1)) (xs (i + 2)) (xs (i + 3)) (xs (i + 4)) (xs (i + 5)) (bz (xs (i + 6)))).2 u2) ++ kz_w G hd ha ho z2).Perm (kz_w G hd ha ho z2 ++ mcells G b (scr (kM_open σ (xs (i + 1)) (xs (i + 2)) (xs (i + 3)) (xs (i + 4)) (xs (i + 5)) (bz (xs (i + 6)))).2 u2)) := List.perm_append_comm
  refine kg_reti (wc := mcells G b (scr (kM_open σ (xs (i + 1)) (xs (i + 2)) (xs (i + 3)) (xs (i + 4)) (xs (i + 5)) (bz (xs (i + 6)))).2 u2)) (wr := kz_w G hd ha ho z2) (va_runV (C := RM) (As := []) (rest := []) ⟨hx, hb, hml, hown, hg⟩ (c_M_thrown l D G b (kM_open σ (xs (i + 1)) (xs (i + 2)) (xs (i + 3)) (xs (i + 4)) (xs (i + 5)) (bz (xs (i + 6)))).2 u2 _) ⟨kw_cB (n := 0) hg gw_583 gw_2 gw_580 (by decide +kernel) (by decide +kernel) ⟨Nat.le_trans (Nat.le_of_ble_eq_true rfl) hR.1, Nat.le_trans (Nat.le_of_ble_eq_true rfl) hR.2⟩ rfl rfl, hg _ gw_581, hg _ gw_582⟩ (kw_preV (q0 := 0) hK (kw_Pl (kw_Pp hP hq)) (kw_Dl (kw_Dp hD hq)) rfl rfl) rfl rfl hl.1 rfl (lv_room (Nat.le_of_ble_eq_true rfl)) dL_law_224 ⟨(by show (cells + 8) + 0 ≤ R.cells; omega), (by show (slots + 321) + 0 ≤ R.slots; omega)⟩) (kw_Pp hP hq) (kw_Dp hD hq) hS hA (fun w u3 H locs hw hP hD hS => ?_)
  have hP := kw_Pp hP (List.perm_append_comm : (kz_w G hd ha ho z2 ++ mcells G b (scr (kM_open σ (xs (i + 1)) (xs (i + 2)) (xs (i + 3)) (xs (i + 4)) (xs (i + 5)) (bz (xs (i + 6)))).2 u3)).Perm (mcells G b (scr (kM_open σ (xs (i + 1)) (xs (i + 2)) (xs (i + 3)) (xs (i + 4)) (xs (i + 5)) (bz (xs (i + 6)))).2 u3) ++ kz_w G hd ha ho z2))
  have hD := kw_Dp hD (List.perm_append_comm : (kz_w G hd ha ho z2 ++ mcells G b (scr (kM_open σ (xs (i + 1)) (xs (i + 2)) (xs (i + 3)) (xs (i + 4)) (xs (i + 5)) (bz (xs (i + 6)))).2 u3)).Perm (mcells G b (scr (kM_open σ (xs (i + 1)) (xs (i + 2)) (xs (i + 3)) (xs (i + 4)) (xs (i + 5)) (bz (xs (i + 6)))).2 u3) ++ kz_w G hd ha ho z2))
  refine lv_iload hx hb dL_law_227 (lv_at hl 1 rfl) ?_
  have ek : w = k := hw.trans hpo.1
  refine lv_icmp_eq (tgt := 234) hx hb dL_law_229 (by decide) (fun _ => ?_) (fun h => absurd ek h)
  refine lv_iload hx hb dL_law_234 (lv_at hl 1 rfl) ?_
  refine lv_if_ne (tgt := 251) hx hb dL_law_236 (by decide) (fun _ => ?_) (fun h0 => ?_)
  · refine lv_goto (tgt := 1177) hx hb dL_law_251 (by decide) ?_
    exact kk z2 (kM_open σ (xs (i + 1)) (xs (i + 2)) (xs (i + 3)) (xs (i + 4)) (xs (i + 5)) (bz (xs (i + 6)))).2 u3 _ _ _ hpo.2.2.1 hpo.2.2.2 hP hD hS (lv_sub hl [2, 3, 4, 5, 6] rfl)
  · refine lv_aload_n hx hb dL_law_239 rfl (lv_at hl 6 rfl) ?_
    refine lv_iconst (v := 0) hx hb dL_law_240 (by decide) ?_
    refine va_lald hx hb hK hP 0 2 rfl rfl (vp_in_nI (n := 0) (by decide) (by decide)) dL_law_241 ?_
    refine lv_iload hx hb dL_law_242 (lv_at hl 0 rfl) ?_
    refine lv_i2l hx hb dL_law_244 rfl ?_
    refine W.lcmp hx hb dL_law_245 ?_
    have eo : z2.2.1 0 = r.toInt64 := (hpo.2.1 h0).trans (congrArg Int32.toInt64 hr2).symm
    refine lv_if_eq (tgt := 251) hx hb dL_law_246 (by decide) (fun _ => ?_) (fun h => absurd ((lg_cmp_eq _ _).2 eo) h)
    refine lv_goto (tgt := 1177) hx hb dL_law_251 (by decide) ?_
    exact kk z2 (kM_open σ (xs (i + 1)) (xs (i + 2)) (xs (i + 3)) (xs (i + 4)) (xs (i + 5)) (bz (xs (i + 6)))).2 u3 _ _ _ hpo.2.2.1 hpo.2.2.2 hP hD hS (lv_sub hl [2, 3, 4, 5, 6] rfl)
set_option maxRecDepth 100000 in
set_option maxHeartbeats 4000000 in
theorem lw_charge {p : Program} {l : Launch} {e : Env} {R : Room} {s : State} {m : MethodId} {args : Array Value} {below : List Frame} {meth : Method} {c : Code} {H : Heap} {locs : List Loc} {cells slots : Nat} {Q : State → Prop} {ls : Array Slot} (hlt : l.stackTraces = false) (hx : p.tables.exec = Jvm.exec) (hb : c.code = cL_law) (hml : c.maxLocals = 7) (hown : s.vm.findClass RL = some m.cls) (hg : ∀ w ∈ GW, w.before args s = true) {D : va_G} {G : Nat → ClassId} (hK : va_K D vwCl (gt G) s) {A : Nat → Prop} (hA : ∀ q, s.heap.size ≤ q → A q) (hE : kt_E A s) (hN : kl_N s) {sb L : Nat} {xs : Nat → Int32} (hX : va_X sb L xs s s.heap) (hbl : sb < s.heap.size) (hbA : ¬ A sb) (hR : 10 ≤ R.frames ∧ 300 ≤ R.locals) {hd ha ho : Nat} {b : Nat → Nat} {i : Nat} (hi : i + 7 ≤ L) (hL : L < 2 ^ 31) (hcs : cells + 8 ≤ R.cells ∧ slots + 321 ≤ R.slots) (z : kZ) (σ : KS) (u : Int32 × Int32 × Int32) (hrd : rd z.1 σ z.2.2.2) (hgz : kz_g z) (hP : va_P D vwCl (kz_w G hd ha ho z ++ mcells G b (scr σ u)) H) (hD : va_D A (kz_w G hd ha ho z ++ mcells G b (scr σ u))) (hS : va_S A s.heap H locs) (hl : lv_has ls 7 [(4, .int (nI i)), (0, .ref sb), (1, .ref hd), (2, .ref (b 0)), (3, .ref ho)])
    (kk : ∀ (z : kZ) (σ : KS) (u : Int32 × Int32 × Int32) (ls : Array Slot) (H : Heap) (locs : List Loc), rd z.1 σ z.2.2.2 → kz_g z → va_P D vwCl (kz_w G hd ha ho z ++ mcells G b (scr σ u)) H → va_D A (kz_w G hd ha ho z ++ mcells G b (scr σ u)) → va_S A s.heap H locs → lv_has ls 7 [(4, .int (nI i)), (0, .ref sb), (1, .ref hd), (2, .ref (b 0)), (3, .ref ho)] → W p l e R s m args below meth c H locs (cells + 8) (slots + 321) Q (F0 m 1177 ls [])) :
    W p l e R s m args below meth c H locs cells slots Q (F0 m 254 ls []) := by
  refine lv_aload_n hx hb dL_law_254 rfl (lv_at hl 2 rfl) ?_
  refine lv_aload_n hx hb dL_law_255 rfl (lv_at hl 1 rfl) ?_
  refine lv_iload hx hb dL_law_256 (lv_at hl 0 rfl) ?_
  refine lv_iconst (v := 1) hx hb dL_law_258 (by decide) ?_
  refine lv_iadd hx hb dL_law_259 ?_
  refine ks_ld hx hb hX hbl hbA hS 1 (by omega) hL rfl dL_law_260 ?_
  refine lv_aload_n hx hb dL_law_261 rfl (lv_at hl 1 rfl) ?_
  refine lv_iload hx hb dL_law_262 (lv_at hl 0 rfl) ?_
  refine lv_iconst (v := 2) hx hb dL_law_264 (by decide) ?_
  refine lv_iadd hx hb dL_law_265 ?_
  refine ks_ld hx hb hX hbl hbA hS 2 (by omega) hL rfl dL_law_266 ?_
  obtain ⟨mc, ms, hmc, hms, hM⟩ := km_charge l hlt D G hd ha z σ hrd hgz (xs (i + 1)) (xs (i + 2))
  have hq0 : (kz_d G hd ha z ++ (ocl G ho z.2.1 ++ mcells G b (scr σ u))).Perm (kz_w G hd ha ho z ++ mcells G b (scr σ u)) := by
    unfold kz_w
    rw [← List.append_assoc]
    exact List.Perm.append_right _ List.perm_append_comm
  refine kg_reti (wc := kz_d G hd ha z) (wr := ocl G ho z.2.1 ++ mcells G b (scr σ u)) (vx_runSW (As := [.ref hd, .int (xs (i + 1)), .int (xs (i + 2))]) (rest := []) ⟨hx, hb, hml, hown, hg⟩ (hM _) (kl_cSW (n := 3) hg gw_300 gw_0 gw_298 gw_299 (by decide +kernel) (by decide +kernel) ⟨Nat.le_trans (Nat.le_of_ble_eq_true rfl) hR.1, Nat.le_trans (Nat.le_of_ble_eq_true rfl) hR.2⟩ rfl rfl) (kl_preS hK (kw_Pl (kw_Pp hP hq0)) (kw_Dl (kw_Dp hD hq0)) hE hN hS (kw_free (kw_Dp hD hq0) hS hA)) rfl rfl hl.1 rfl (lv_room (Nat.le_of_ble_eq_true rfl)) dL_law_267 ⟨(by omega), (by omega)⟩) (kw_Pp hP hq0) (kw_Dp hD hq0) hS hA (fun k z2 H locs hpo hP hD hS => ?_)
  refine W.widen (k := cells + 8) (n := slots + 321) (by omega) (by omega) ?_
  obtain ⟨Ls2, f2, g2, t2⟩ := z2
  have hq1 : (kz_w G hd ha ho (Ls2, z.2.1, g2, t2) ++ mcells G b (scr σ u)).Perm (kz_d G hd ha (Ls2, f2, g2, t2) ++ (ocl G ho z.2.1 ++ mcells G b (scr σ u))) := by
    rw [← List.append_assoc]
    exact List.Perm.append_right _ List.perm_append_comm
  have hP := kw_Pp hP hq1
  have hD := kw_Dp hD hq1
  refine lv_istore hx hb dL_law_270 hl (by decide) rfl (fun ls hl => ?_)
  have hl : lv_has ls 7 [(5, .int k), (4, .int (nI i)), (0, .ref sb), (1, .ref hd), (2, .ref (b 0)), (3, .ref ho)] := hl
  refine lv_aload_n hx hb dL_law_272 rfl (lv_at hl 4 rfl) ?_
  refine lv_aload_n hx hb dL_law_273 rfl (lv_at hl 2 rfl) ?_
  refine lv_iload hx hb dL_law_274 (lv_at hl 1 rfl) ?_
  refine lv_iconst (v := 1) hx hb dL_law_276 (by decide) ?_
  refine lv_iadd hx hb dL_law_277 ?_
  refine ks_ld hx hb hX hbl hbA hS 1 (by omega) hL rfl dL_law_278 ?_
  refine lv_aload_n hx hb dL_law_279 rfl (lv_at hl 2 rfl) ?_
  refine lv_iload hx hb dL_law_280 (lv_at hl 1 rfl) ?_
  refine lv_iconst (v := 2) hx hb dL_law_282 (by decide) ?_
  refine lv_iadd hx hb dL_law_283 ?_
  refine ks_ld hx hb hX hbl hbA hS 2 (by omega) hL rfl dL_law_284 ?_
  have hq : (mcells G b (scr σ u) ++ kz_w G hd ha ho (Ls2, z.2.1, g2, t2)).Perm (kz_w G hd ha ho (Ls2, z.2.1, g2, t2) ++ mcells G b (scr σ u)) := List.perm_append_comm
  refine kg_retv (wc := mcells G b (scr σ u)) (wr := kz_w G hd ha ho (Ls2, z.2.1, g2, t2)) (va_runV (C := RM) (As := [.int (xs (i + 1)), .int (xs (i + 2))]) (rest := []) ⟨hx, hb, hml, hown, hg⟩ (c_M_charge l D G b σ u (xs (i + 1)) (xs (i + 2)) _ _ hrd.2.2.1 hrd.2.2.2.1) ⟨kw_cB (n := 2) hg gw_652 gw_2 gw_649 (by decide +kernel) (by decide +kernel) ⟨Nat.le_trans (Nat.le_of_ble_eq_true rfl) hR.1, Nat.le_trans (Nat.le_of_ble_eq_true rfl) hR.2⟩ rfl rfl, hg _ gw_650, hg _ gw_651⟩ (kw_preV (q0 := 0) hK (kw_Pl (kw_Pp hP hq)) (kw_Dl (kw_Dp hD hq)) rfl rfl) rfl rfl hl.1 rfl (lv_room (Nat.le_of_ble_eq_true rfl)) dL_law_285 ⟨(by show (cells + 8) + 0 ≤ R.cells; omega), (by show (slots + 321) + 0 ≤ R.slots; omega)⟩) (kw_Pp hP hq) (kw_Dp hD hq) hS hA (fun u2 H locs _ hP hD hS => ?_)
  have hP := kw_Pp hP (List.perm_append_comm : (kz_w G hd ha ho (Ls2, z.2.1, g2, t2) ++ mcells G b (scr (kM_charge σ (xs (i + 1)) (xs (i + 2))) u2)).Perm (mcells G b (scr (kM_charge σ (xs (i + 1)) (xs (i + 2))) u2) ++ kz_w G hd ha ho (Ls2, z.2.1, g2, t2)))
  have hD := kw_Dp hD (List.perm_append_comm : (kz_w G hd ha ho (Ls2, z.2.1, g2, t2) ++ mcells G b (scr (kM_charge σ (xs (i + 1)) (xs (i + 2))) u2)).Perm (mcells G b (scr (kM_charge σ (xs (i + 1)) (xs (i + 2))) u2) ++ kz_w G hd ha ho (Ls2, z.2.1, g2, t2)))
  refine lv_aload_n hx hb dL_law_288 rfl (lv_at hl 4 rfl) ?_
  have hq : (mcells G b (scr (kM_charge σ (xs (i + 1)) (xs (i + 2))) u2) ++ kz_w G hd ha ho (Ls2, z.2.1, g2, t2)).Perm (kz_w G hd ha ho (Ls2, z.2.1, g2, t2) ++ mcells G b (scr (kM_charge σ (xs (i + 1)) (xs (i + 2))) u2)) := List.perm_append_comm
  refine kg_reti (wc := mcells G b (scr (kM_charge σ (xs (i + 1)) (xs (i + 2))) u2)) (wr := kz_w G hd ha ho (Ls2, z.2.1, g2, t2)) (va_runV (C := RM) (As := []) (rest := []) ⟨hx, hb, hml, hown, hg⟩ (c_M_thrown l D G b (kM_charge σ (xs (i + 1)) (xs (i + 2))) u2 _) ⟨kw_cB (n := 0) hg gw_583 gw_2 gw_580 (by decide +kernel) (by decide +kernel) ⟨Nat.le_trans (Nat.le_of_ble_eq_true rfl) hR.1, Nat.le_trans (Nat.le_of_ble_eq_true rfl) hR.2⟩ rfl rfl, hg _ gw_581, hg _ gw_582⟩ (kw_preV (q0 := 0) hK (kw_Pl (kw_Pp hP hq)) (kw_Dl (kw_Dp hD hq)) rfl rfl) rfl rfl hl.1 rfl (lv_room (Nat.le_of_ble_eq_true rfl)) dL_law_289 ⟨(by show (cells + 8) + 0 ≤ R.cells; omega), (by show (slots + 321) + 0 ≤ R.slots; omega)⟩) (kw_Pp hP hq) (kw_Dp hD hq) hS hA (fun w u3 H locs hw hP hD hS => ?_)
  have hP := kw_Pp hP (List.perm_append_comm : (kz_w G hd ha ho (Ls2, z.2.1, g2, t2) ++ mcells G b (scr (kM_charge σ (xs (i + 1)) (xs (i + 2))) u3)).Perm (mcells G b (scr (kM_charge σ (xs (i + 1)) (xs (i + 2))) u3) ++ kz_w G hd ha ho (Ls2, z.2.1, g2, t2)))
  have hD := kw_Dp hD (List.perm_append_comm : (kz_w G hd ha ho (Ls2, z.2.1, g2, t2) ++ mcells G b (scr (kM_charge σ (xs (i + 1)) (xs (i + 2))) u3)).Perm (mcells G b (scr (kM_charge σ (xs (i + 1)) (xs (i + 2))) u3) ++ kz_w G hd ha ho (Ls2, z.2.1, g2, t2)))
  refine lv_iload hx hb dL_law_292 (lv_at hl 0 rfl) ?_
  have ek : w = k := hw.trans hpo.1
  refine lv_icmp_eq (tgt := 299) hx hb dL_law_294 (by decide) (fun _ => ?_) (fun h => absurd ek h)
  refine lv_goto (tgt := 1177) hx hb dL_law_299 (by decide) ?_
  exact kk (Ls2, z.2.1, g2, t2) (kM_charge σ (xs (i + 1)) (xs (i + 2))) u3 _ _ _ hpo.2.1 hpo.2.2 hP hD hS (lv_sub hl [1, 2, 3, 4, 5] rfl)
set_option maxRecDepth 100000 in
set_option maxHeartbeats 4000000 in
theorem lw_advance {p : Program} {l : Launch} {e : Env} {R : Room} {s : State} {m : MethodId} {args : Array Value} {below : List Frame} {meth : Method} {c : Code} {H : Heap} {locs : List Loc} {cells slots : Nat} {Q : State → Prop} {ls : Array Slot} (hlt : l.stackTraces = false) (hx : p.tables.exec = Jvm.exec) (hb : c.code = cL_law) (hml : c.maxLocals = 7) (hown : s.vm.findClass RL = some m.cls) (hg : ∀ w ∈ GW, w.before args s = true) {D : va_G} {G : Nat → ClassId} (hK : va_K D vwCl (gt G) s) {A : Nat → Prop} (hA : ∀ q, s.heap.size ≤ q → A q) (hE : kt_E A s) (hN : kl_N s) {sb L : Nat} {xs : Nat → Int32} (hX : va_X sb L xs s s.heap) (hbl : sb < s.heap.size) (hbA : ¬ A sb) (hR : 10 ≤ R.frames ∧ 300 ≤ R.locals) {hd ha ho : Nat} {b : Nat → Nat} {i : Nat} (hi : i + 7 ≤ L) (hL : L < 2 ^ 31) (hcs : cells + 8 ≤ R.cells ∧ slots + 321 ≤ R.slots) (z : kZ) (σ : KS) (u : Int32 × Int32 × Int32) (hrd : rd z.1 σ z.2.2.2) (hgz : kz_g z) (hP : va_P D vwCl (kz_w G hd ha ho z ++ mcells G b (scr σ u)) H) (hD : va_D A (kz_w G hd ha ho z ++ mcells G b (scr σ u))) (hS : va_S A s.heap H locs) (hl : lv_has ls 7 [(4, .int (nI i)), (0, .ref sb), (1, .ref hd), (2, .ref (b 0)), (3, .ref ho)])
    (kk : ∀ (z : kZ) (σ : KS) (u : Int32 × Int32 × Int32) (ls : Array Slot) (H : Heap) (locs : List Loc), rd z.1 σ z.2.2.2 → kz_g z → va_P D vwCl (kz_w G hd ha ho z ++ mcells G b (scr σ u)) H → va_D A (kz_w G hd ha ho z ++ mcells G b (scr σ u)) → va_S A s.heap H locs → lv_has ls 7 [(4, .int (nI i)), (0, .ref sb), (1, .ref hd), (2, .ref (b 0)), (3, .ref ho)] → W p l e R s m args below meth c H locs (cells + 8) (slots + 321) Q (F0 m 1177 ls [])) :
    W p l e R s m args below meth c H locs cells slots Q (F0 m 302 ls []) := by
  refine lv_aload_n hx hb dL_law_302 rfl (lv_at hl 2 rfl) ?_
  refine lv_aload_n hx hb dL_law_303 rfl (lv_at hl 1 rfl) ?_
  refine lv_iload hx hb dL_law_304 (lv_at hl 0 rfl) ?_
  refine lv_iconst (v := 1) hx hb dL_law_306 (by decide) ?_
  refine lv_iadd hx hb dL_law_307 ?_
  refine ks_ld hx hb hX hbl hbA hS 1 (by omega) hL rfl dL_law_308 ?_
  refine lv_aload_n hx hb dL_law_309 rfl (lv_at hl 4 rfl) ?_
  obtain ⟨mc, ms, hmc, hms, hM⟩ := km_advance l hlt D G hd ha ho z σ hrd hgz (xs (i + 1))
  refine kg_reti (wc := kz_w G hd ha ho z) (wr := mcells G b (scr σ u)) (vx_runSW (As := [.ref hd, .int (xs (i + 1)), .ref ho]) (rest := []) ⟨hx, hb, hml, hown, hg⟩ (hM _) (kl_cSW (n := 3) hg gw_333 gw_0 gw_331 gw_332 (by decide +kernel) (by decide +kernel) ⟨Nat.le_trans (Nat.le_of_ble_eq_true rfl) hR.1, Nat.le_trans (Nat.le_of_ble_eq_true rfl) hR.2⟩ rfl rfl) (kl_preS hK (kw_Pl hP) (kw_Dl hD) hE hN hS (kw_free hD hS hA)) rfl rfl hl.1 rfl (lv_room (Nat.le_of_ble_eq_true rfl)) dL_law_310 ⟨(by omega), (by omega)⟩) hP hD hS hA (fun k z2 H locs hpo hP hD hS => ?_)
  refine W.widen (k := cells + 8) (n := slots + 321) (by omega) (by omega) ?_
  refine lv_istore hx hb dL_law_313 hl (by decide) rfl (fun ls hl => ?_)
  have hl : lv_has ls 7 [(5, .int k), (4, .int (nI i)), (0, .ref sb), (1, .ref hd), (2, .ref (b 0)), (3, .ref ho)] := hl
  refine lv_aload_n hx hb dL_law_315 rfl (lv_at hl 4 rfl) ?_
  refine lv_aload_n hx hb dL_law_316 rfl (lv_at hl 2 rfl) ?_
  refine lv_iload hx hb dL_law_317 (lv_at hl 1 rfl) ?_
  refine lv_iconst (v := 1) hx hb dL_law_319 (by decide) ?_
  refine lv_iadd hx hb dL_law_320 ?_
  refine ks_ld hx hb hX hbl hbA hS 1 (by omega) hL rfl dL_law_321 ?_
  have hq : (mcells G b (scr σ u) ++ kz_w G hd ha ho z2).Perm (kz_w G hd ha ho z2 ++ mcells G b (scr σ u)) := List.perm_append_comm
  refine kg_reti (wc := mcells G b (scr σ u)) (wr := kz_w G hd ha ho z2) (va_runV (C := RM) (As := [.int (xs (i + 1))]) (rest := []) ⟨hx, hb, hml, hown, hg⟩ (c_M_advance l D G b σ u (xs (i + 1)) _ _ hrd.2.2.1 hrd.2.2.2.1 (rd_Iv (xs (i + 1))) (rd_adv_h0 hrd (xs (i + 1))) (rd_adv_hs σ (xs (i + 1)))) ⟨kw_cB (n := 1) hg gw_663 gw_2 gw_660 (by decide +kernel) (by decide +kernel) ⟨Nat.le_trans (Nat.le_of_ble_eq_true rfl) hR.1, Nat.le_trans (Nat.le_of_ble_eq_true rfl) hR.2⟩ rfl rfl, hg _ gw_661, hg _ gw_662⟩ (kw_preV (q0 := 0) hK (kw_Pl (kw_Pp hP hq)) (kw_Dl (kw_Dp hD hq)) rfl rfl) rfl rfl hl.1 rfl (lv_room (Nat.le_of_ble_eq_true rfl)) dL_law_322 ⟨(by show (cells + 8) + 0 ≤ R.cells; omega), (by show (slots + 321) + 0 ≤ R.slots; omega)⟩) (kw_Pp hP hq) (kw_Dp hD hq) hS hA (fun r u2 H locs hr2 hP hD hS => ?_)
  have hP := kw_Pp hP (List.perm_append_comm : (kz_w G hd ha ho z2 ++ mcells G b (scr (kM_advance σ (xs (i + 1))).2 u2)).Perm (mcells G b (scr (kM_advance σ (xs (i + 1))).2 u2) ++ kz_w G hd ha ho z2))
  have hD := kw_Dp hD (List.perm_append_comm : (kz_w G hd ha ho z2 ++ mcells G b (scr (kM_advance σ (xs (i + 1))).2 u2)).Perm (mcells G b (scr (kM_advance σ (xs (i + 1))).2 u2) ++ kz_w G hd ha ho z2))
  refine lv_istore hx hb dL_law_325 hl (by decide) rfl (fun ls hl => ?_)
  have hl : lv_has ls 7 [(6, .int r), (5, .int k), (4, .int (nI i)), (0, .ref sb), (1, .ref hd), (2, .ref (b 0)), (3, .ref ho)] := hl
  refine lv_aload_n hx hb dL_law_327 rfl (lv_at hl 5 rfl) ?_
  have hq : (mcells G b (scr (kM_advance σ (xs (i + 1))).2 u2) ++ kz_w G hd ha ho z2).Perm (kz_w G hd ha ho z2 ++ mcells G b (scr (kM_advance σ (xs (i + 1))).2 u2)) := List.perm_append_comm
  refine kg_reti (wc := mcells G b (scr (kM_advance σ (xs (i + 1))).2 u2)) (wr := kz_w G hd ha ho z2) (va_runV (C := RM) (As := []) (rest := []) ⟨hx, hb, hml, hown, hg⟩ (c_M_thrown l D G b (kM_advance σ (xs (i + 1))).2 u2 _) ⟨kw_cB (n := 0) hg gw_583 gw_2 gw_580 (by decide +kernel) (by decide +kernel) ⟨Nat.le_trans (Nat.le_of_ble_eq_true rfl) hR.1, Nat.le_trans (Nat.le_of_ble_eq_true rfl) hR.2⟩ rfl rfl, hg _ gw_581, hg _ gw_582⟩ (kw_preV (q0 := 0) hK (kw_Pl (kw_Pp hP hq)) (kw_Dl (kw_Dp hD hq)) rfl rfl) rfl rfl hl.1 rfl (lv_room (Nat.le_of_ble_eq_true rfl)) dL_law_328 ⟨(by show (cells + 8) + 0 ≤ R.cells; omega), (by show (slots + 321) + 0 ≤ R.slots; omega)⟩) (kw_Pp hP hq) (kw_Dp hD hq) hS hA (fun w u3 H locs hw hP hD hS => ?_)
  have hP := kw_Pp hP (List.perm_append_comm : (kz_w G hd ha ho z2 ++ mcells G b (scr (kM_advance σ (xs (i + 1))).2 u3)).Perm (mcells G b (scr (kM_advance σ (xs (i + 1))).2 u3) ++ kz_w G hd ha ho z2))
  have hD := kw_Dp hD (List.perm_append_comm : (kz_w G hd ha ho z2 ++ mcells G b (scr (kM_advance σ (xs (i + 1))).2 u3)).Perm (mcells G b (scr (kM_advance σ (xs (i + 1))).2 u3) ++ kz_w G hd ha ho z2))
  refine lv_iload hx hb dL_law_331 (lv_at hl 1 rfl) ?_
  have ek : w = k := hw.trans hpo.1
  refine lv_icmp_eq (tgt := 338) hx hb dL_law_333 (by decide) (fun _ => ?_) (fun h => absurd ek h)
  refine lv_iload hx hb dL_law_338 (lv_at hl 1 rfl) ?_
  refine lv_if_ne (tgt := 355) hx hb dL_law_340 (by decide) (fun _ => ?_) (fun h0 => ?_)
  · refine lv_goto (tgt := 1177) hx hb dL_law_355 (by decide) ?_
    exact kk z2 (kM_advance σ (xs (i + 1))).2 u3 _ _ _ hpo.2.2.1 hpo.2.2.2 hP hD hS (lv_sub hl [2, 3, 4, 5, 6] rfl)
  · refine lv_aload_n hx hb dL_law_343 rfl (lv_at hl 6 rfl) ?_
    refine lv_iconst (v := 0) hx hb dL_law_344 (by decide) ?_
    refine va_lald hx hb hK hP 0 2 rfl rfl (vp_in_nI (n := 0) (by decide) (by decide)) dL_law_345 ?_
    refine lv_iload hx hb dL_law_346 (lv_at hl 0 rfl) ?_
    refine lv_i2l hx hb dL_law_348 rfl ?_
    refine W.lcmp hx hb dL_law_349 ?_
    have eo : z2.2.1 0 = r.toInt64 := (hpo.2.1 h0).trans (congrArg Int32.toInt64 hr2).symm
    refine lv_if_eq (tgt := 355) hx hb dL_law_350 (by decide) (fun _ => ?_) (fun h => absurd ((lg_cmp_eq _ _).2 eo) h)
    refine lv_goto (tgt := 1177) hx hb dL_law_355 (by decide) ?_
    exact kk z2 (kM_advance σ (xs (i + 1))).2 u3 _ _ _ hpo.2.2.1 hpo.2.2.2 hP hD hS (lv_sub hl [2, 3, 4, 5, 6] rfl)
set_option maxRecDepth 100000 in
set_option maxHeartbeats 4000000 in
theorem lw_pay {p : Program} {l : Launch} {e : Env} {R : Room} {s : State} {m : MethodId} {args : Array Value} {below : List Frame} {meth : Method} {c : Code} {H : Heap} {locs : List Loc} {cells slots : Nat} {Q : State → Prop} {ls : Array Slot} (hlt : l.stackTraces = false) (hx : p.tables.exec = Jvm.exec) (hb : c.code = cL_law) (hml : c.maxLocals = 7) (hown : s.vm.findClass RL = some m.cls) (hg : ∀ w ∈ GW, w.before args s = true) {D : va_G} {G : Nat → ClassId} (hK : va_K D vwCl (gt G) s) {A : Nat → Prop} (hA : ∀ q, s.heap.size ≤ q → A q) (hE : kt_E A s) (hN : kl_N s) {sb L : Nat} {xs : Nat → Int32} (hX : va_X sb L xs s s.heap) (hbl : sb < s.heap.size) (hbA : ¬ A sb) (hR : 10 ≤ R.frames ∧ 300 ≤ R.locals) {hd ha ho : Nat} {b : Nat → Nat} {i : Nat} (hi : i + 7 ≤ L) (hL : L < 2 ^ 31) (hcs : cells + 8 ≤ R.cells ∧ slots + 321 ≤ R.slots) (z : kZ) (σ : KS) (u : Int32 × Int32 × Int32) (hrd : rd z.1 σ z.2.2.2) (hgz : kz_g z) (hP : va_P D vwCl (kz_w G hd ha ho z ++ mcells G b (scr σ u)) H) (hD : va_D A (kz_w G hd ha ho z ++ mcells G b (scr σ u))) (hS : va_S A s.heap H locs) (hl : lv_has ls 7 [(4, .int (nI i)), (0, .ref sb), (1, .ref hd), (2, .ref (b 0)), (3, .ref ho)])
    (kk : ∀ (z : kZ) (σ : KS) (u : Int32 × Int32 × Int32) (ls : Array Slot) (H : Heap) (locs : List Loc), rd z.1 σ z.2.2.2 → kz_g z → va_P D vwCl (kz_w G hd ha ho z ++ mcells G b (scr σ u)) H → va_D A (kz_w G hd ha ho z ++ mcells G b (scr σ u)) → va_S A s.heap H locs → lv_has ls 7 [(4, .int (nI i)), (0, .ref sb), (1, .ref hd), (2, .ref (b 0)), (3, .ref ho)] → W p l e R s m args below meth c H locs (cells + 8) (slots + 321) Q (F0 m 1177 ls [])) :
    W p l e R s m args below meth c H locs cells slots Q (F0 m 358 ls []) := by
  refine lv_aload_n hx hb dL_law_358 rfl (lv_at hl 2 rfl) ?_
  refine lv_aload_n hx hb dL_law_359 rfl (lv_at hl 1 rfl) ?_
  refine lv_iload hx hb dL_law_360 (lv_at hl 0 rfl) ?_
  refine lv_iconst (v := 1) hx hb dL_law_362 (by decide) ?_
  refine lv_iadd hx hb dL_law_363 ?_
  refine ks_ld hx hb hX hbl hbA hS 1 (by omega) hL rfl dL_law_364 ?_
  refine lv_aload_n hx hb dL_law_365 rfl (lv_at hl 1 rfl) ?_
  refine lv_iload hx hb dL_law_366 (lv_at hl 0 rfl) ?_
  refine lv_iconst (v := 2) hx hb dL_law_368 (by decide) ?_
  refine lv_iadd hx hb dL_law_369 ?_
  refine ks_ld hx hb hX hbl hbA hS 2 (by omega) hL rfl dL_law_370 ?_
  refine lv_aload_n hx hb dL_law_371 rfl (lv_at hl 4 rfl) ?_
  obtain ⟨mc, ms, hmc, hms, hM⟩ := km_pay l hlt D G hd ha ho z σ hrd hgz (xs (i + 1)) (xs (i + 2))
  refine kg_reti (wc := kz_w G hd ha ho z) (wr := mcells G b (scr σ u)) (vx_runSW (As := [.ref hd, .int (xs (i + 1)), .int (xs (i + 2)), .ref ho]) (rest := []) ⟨hx, hb, hml, hown, hg⟩ (hM _) (kl_cSW (n := 4) hg gw_378 gw_0 gw_376 gw_377 (by decide +kernel) (by decide +kernel) ⟨Nat.le_trans (Nat.le_of_ble_eq_true rfl) hR.1, Nat.le_trans (Nat.le_of_ble_eq_true rfl) hR.2⟩ rfl rfl) (kl_preS hK (kw_Pl hP) (kw_Dl hD) hE hN hS (kw_free hD hS hA)) rfl rfl hl.1 rfl (lv_room (Nat.le_of_ble_eq_true rfl)) dL_law_372 ⟨(by omega), (by omega)⟩) hP hD hS hA (fun k z2 H locs hpo hP hD hS => ?_)
  refine W.widen (k := cells + 8) (n := slots + 321) (by omega) (by omega) ?_
  refine lv_istore hx hb dL_law_375 hl (by decide) rfl (fun ls hl => ?_)
  have hl : lv_has ls 7 [(5, .int k), (4, .int (nI i)), (0, .ref sb), (1, .ref hd), (2, .ref (b 0)), (3, .ref ho)] := hl
  refine lv_aload_n hx hb dL_law_377 rfl (lv_at hl 4 rfl) ?_
  refine lv_aload_n hx hb dL_law_378 rfl (lv_at hl 2 rfl) ?_
  refine lv_iload hx hb dL_law_379 (lv_at hl 1 rfl) ?_
  refine lv_iconst (v := 1) hx hb dL_law_381 (by decide) ?_
  refine lv_iadd hx hb dL_law_382 ?_
  refine ks_ld hx hb hX hbl hbA hS 1 (by omega) hL rfl dL_law_383 ?_
  refine lv_aload_n hx hb dL_law_384 rfl (lv_at hl 2 rfl) ?_
  refine lv_iload hx hb dL_law_385 (lv_at hl 1 rfl) ?_
  refine lv_iconst (v := 2) hx hb dL_law_387 (by decide) ?_
  refine lv_iadd hx hb dL_law_388 ?_
  refine ks_ld hx hb hX hbl hbA hS 2 (by omega) hL rfl dL_law_389 ?_
  have hq : (mcells G b (scr σ u) ++ kz_w G hd ha ho z2).Perm (kz_w G hd ha ho z2 ++ mcells G b (scr σ u)) := List.perm_append_comm
  refine kg_reti (wc := mcells G b (scr σ u)) (wr := kz_w G hd ha ho z2) (va_runV (C := RM) (As := [.int (xs (i + 1)), .int (xs (i + 2))]) (rest := []) ⟨hx, hb, hml, hown, hg⟩ (c_M_pay l D G b σ u (xs (i + 1)) (xs (i + 2)) _ _ hrd.2.2.1 hrd.2.2.2.1 (rd_today hrd) (rd_pay_hpp hrd _)) ⟨kw_cB (n := 2) hg gw_683 gw_2 gw_680 (by decide +kernel) (by decide +kernel) ⟨Nat.le_trans (Nat.le_of_ble_eq_true rfl) hR.1, Nat.le_trans (Nat.le_of_ble_eq_true rfl) hR.2⟩ rfl rfl, hg _ gw_681, hg _ gw_682⟩ (kw_preV (q0 := 0) hK (kw_Pl (kw_Pp hP hq)) (kw_Dl (kw_Dp hD hq)) rfl rfl) rfl rfl hl.1 rfl (lv_room (Nat.le_of_ble_eq_true rfl)) dL_law_390 ⟨(by show (cells + 8) + 0 ≤ R.cells; omega), (by show (slots + 321) + 0 ≤ R.slots; omega)⟩) (kw_Pp hP hq) (kw_Dp hD hq) hS hA (fun r u2 H locs hr2 hP hD hS => ?_)
  have hP := kw_Pp hP (List.perm_append_comm : (kz_w G hd ha ho z2 ++ mcells G b (scr (kM_pay σ (xs (i + 1)) (xs (i + 2))).2 u2)).Perm (mcells G b (scr (kM_pay σ (xs (i + 1)) (xs (i + 2))).2 u2) ++ kz_w G hd ha ho z2))
  have hD := kw_Dp hD (List.perm_append_comm : (kz_w G hd ha ho z2 ++ mcells G b (scr (kM_pay σ (xs (i + 1)) (xs (i + 2))).2 u2)).Perm (mcells G b (scr (kM_pay σ (xs (i + 1)) (xs (i + 2))).2 u2) ++ kz_w G hd ha ho z2))
  refine lv_istore hx hb dL_law_393 hl (by decide) rfl (fun ls hl => ?_)
  have hl : lv_has ls 7 [(6, .int r), (5, .int k), (4, .int (nI i)), (0, .ref sb), (1, .ref hd), (2, .ref (b 0)), (3, .ref ho)] := hl
  refine lv_aload_n hx hb dL_law_395 rfl (lv_at hl 5 rfl) ?_
  have hq : (mcells G b (scr (kM_pay σ (xs (i + 1)) (xs (i + 2))).2 u2) ++ kz_w G hd ha ho z2).Perm (kz_w G hd ha ho z2 ++ mcells G b (scr (kM_pay σ (xs (i + 1)) (xs (i + 2))).2 u2)) := List.perm_append_comm
  refine kg_reti (wc := mcells G b (scr (kM_pay σ (xs (i + 1)) (xs (i + 2))).2 u2)) (wr := kz_w G hd ha ho z2) (va_runV (C := RM) (As := []) (rest := []) ⟨hx, hb, hml, hown, hg⟩ (c_M_thrown l D G b (kM_pay σ (xs (i + 1)) (xs (i + 2))).2 u2 _) ⟨kw_cB (n := 0) hg gw_583 gw_2 gw_580 (by decide +kernel) (by decide +kernel) ⟨Nat.le_trans (Nat.le_of_ble_eq_true rfl) hR.1, Nat.le_trans (Nat.le_of_ble_eq_true rfl) hR.2⟩ rfl rfl, hg _ gw_581, hg _ gw_582⟩ (kw_preV (q0 := 0) hK (kw_Pl (kw_Pp hP hq)) (kw_Dl (kw_Dp hD hq)) rfl rfl) rfl rfl hl.1 rfl (lv_room (Nat.le_of_ble_eq_true rfl)) dL_law_396 ⟨(by show (cells + 8) + 0 ≤ R.cells; omega), (by show (slots + 321) + 0 ≤ R.slots; omega)⟩) (kw_Pp hP hq) (kw_Dp hD hq) hS hA (fun w u3 H locs hw hP hD hS => ?_)
  have hP := kw_Pp hP (List.perm_append_comm : (kz_w G hd ha ho z2 ++ mcells G b (scr (kM_pay σ (xs (i + 1)) (xs (i + 2))).2 u3)).Perm (mcells G b (scr (kM_pay σ (xs (i + 1)) (xs (i + 2))).2 u3) ++ kz_w G hd ha ho z2))
  have hD := kw_Dp hD (List.perm_append_comm : (kz_w G hd ha ho z2 ++ mcells G b (scr (kM_pay σ (xs (i + 1)) (xs (i + 2))).2 u3)).Perm (mcells G b (scr (kM_pay σ (xs (i + 1)) (xs (i + 2))).2 u3) ++ kz_w G hd ha ho z2))
  refine lv_iload hx hb dL_law_399 (lv_at hl 1 rfl) ?_
  have ek : w = k := hw.trans hpo.1
  refine lv_icmp_eq (tgt := 406) hx hb dL_law_401 (by decide) (fun _ => ?_) (fun h => absurd ek h)
  refine lv_iload hx hb dL_law_406 (lv_at hl 1 rfl) ?_
  refine lv_if_ne (tgt := 423) hx hb dL_law_408 (by decide) (fun _ => ?_) (fun h0 => ?_)
  · refine lv_goto (tgt := 1177) hx hb dL_law_423 (by decide) ?_
    exact kk z2 (kM_pay σ (xs (i + 1)) (xs (i + 2))).2 u3 _ _ _ hpo.2.2.1 hpo.2.2.2 hP hD hS (lv_sub hl [2, 3, 4, 5, 6] rfl)
  · refine lv_aload_n hx hb dL_law_411 rfl (lv_at hl 6 rfl) ?_
    refine lv_iconst (v := 0) hx hb dL_law_412 (by decide) ?_
    refine va_lald hx hb hK hP 0 2 rfl rfl (vp_in_nI (n := 0) (by decide) (by decide)) dL_law_413 ?_
    refine lv_iload hx hb dL_law_414 (lv_at hl 0 rfl) ?_
    refine lv_i2l hx hb dL_law_416 rfl ?_
    refine W.lcmp hx hb dL_law_417 ?_
    have eo : z2.2.1 0 = r.toInt64 := (hpo.2.1 h0).trans (congrArg Int32.toInt64 hr2).symm
    refine lv_if_eq (tgt := 423) hx hb dL_law_418 (by decide) (fun _ => ?_) (fun h => absurd ((lg_cmp_eq _ _).2 eo) h)
    refine lv_goto (tgt := 1177) hx hb dL_law_423 (by decide) ?_
    exact kk z2 (kM_pay σ (xs (i + 1)) (xs (i + 2))).2 u3 _ _ _ hpo.2.2.1 hpo.2.2.2 hP hD hS (lv_sub hl [2, 3, 4, 5, 6] rfl)
set_option maxRecDepth 100000 in
set_option maxHeartbeats 4000000 in
theorem lw_part {p : Program} {l : Launch} {e : Env} {R : Room} {s : State} {m : MethodId} {args : Array Value} {below : List Frame} {meth : Method} {c : Code} {H : Heap} {locs : List Loc} {cells slots : Nat} {Q : State → Prop} {ls : Array Slot} (hlt : l.stackTraces = false) (hx : p.tables.exec = Jvm.exec) (hb : c.code = cL_law) (hml : c.maxLocals = 7) (hown : s.vm.findClass RL = some m.cls) (hg : ∀ w ∈ GW, w.before args s = true) {D : va_G} {G : Nat → ClassId} (hK : va_K D vwCl (gt G) s) {A : Nat → Prop} (hA : ∀ q, s.heap.size ≤ q → A q) (hE : kt_E A s) (hN : kl_N s) {sb L : Nat} {xs : Nat → Int32} (hX : va_X sb L xs s s.heap) (hbl : sb < s.heap.size) (hbA : ¬ A sb) (hR : 10 ≤ R.frames ∧ 300 ≤ R.locals) {hd ha ho : Nat} {b : Nat → Nat} {i : Nat} (hi : i + 7 ≤ L) (hL : L < 2 ^ 31) (hcs : cells + 8 ≤ R.cells ∧ slots + 321 ≤ R.slots) (z : kZ) (σ : KS) (u : Int32 × Int32 × Int32) (hrd : rd z.1 σ z.2.2.2) (hgz : kz_g z) (hP : va_P D vwCl (kz_w G hd ha ho z ++ mcells G b (scr σ u)) H) (hD : va_D A (kz_w G hd ha ho z ++ mcells G b (scr σ u))) (hS : va_S A s.heap H locs) (hl : lv_has ls 7 [(4, .int (nI i)), (0, .ref sb), (1, .ref hd), (2, .ref (b 0)), (3, .ref ho)])
    (kk : ∀ (z : kZ) (σ : KS) (u : Int32 × Int32 × Int32) (ls : Array Slot) (H : Heap) (locs : List Loc), rd z.1 σ z.2.2.2 → kz_g z → va_P D vwCl (kz_w G hd ha ho z ++ mcells G b (scr σ u)) H → va_D A (kz_w G hd ha ho z ++ mcells G b (scr σ u)) → va_S A s.heap H locs → lv_has ls 7 [(4, .int (nI i)), (0, .ref sb), (1, .ref hd), (2, .ref (b 0)), (3, .ref ho)] → W p l e R s m args below meth c H locs (cells + 8) (slots + 321) Q (F0 m 1177 ls [])) :
    W p l e R s m args below meth c H locs cells slots Q (F0 m 426 ls []) := by
  refine lv_aload_n hx hb dL_law_426 rfl (lv_at hl 2 rfl) ?_
  refine lv_aload_n hx hb dL_law_427 rfl (lv_at hl 1 rfl) ?_
  refine lv_iload hx hb dL_law_428 (lv_at hl 0 rfl) ?_
  refine lv_iconst (v := 1) hx hb dL_law_430 (by decide) ?_
  refine lv_iadd hx hb dL_law_431 ?_
  refine ks_ld hx hb hX hbl hbA hS 1 (by omega) hL rfl dL_law_432 ?_
  refine lv_aload_n hx hb dL_law_433 rfl (lv_at hl 1 rfl) ?_
  refine lv_iload hx hb dL_law_434 (lv_at hl 0 rfl) ?_
  refine lv_iconst (v := 2) hx hb dL_law_436 (by decide) ?_
  refine lv_iadd hx hb dL_law_437 ?_
  refine ks_ld hx hb hX hbl hbA hS 2 (by omega) hL rfl dL_law_438 ?_
  refine lv_aload_n hx hb dL_law_439 rfl (lv_at hl 4 rfl) ?_
  obtain ⟨mc, ms, hmc, hms, hM⟩ := km_part l hlt D G hd ha ho z σ hrd hgz (xs (i + 1)) (xs (i + 2))
  refine kg_reti (wc := kz_w G hd ha ho z) (wr := mcells G b (scr σ u)) (vx_runSW (As := [.ref hd, .int (xs (i + 1)), .int (xs (i + 2)), .ref ho]) (rest := []) ⟨hx, hb, hml, hown, hg⟩ (hM _) (kl_cSW (n := 4) hg gw_394 gw_0 gw_392 gw_393 (by decide +kernel) (by decide +kernel) ⟨Nat.le_trans (Nat.le_of_ble_eq_true rfl) hR.1, Nat.le_trans (Nat.le_of_ble_eq_true rfl) hR.2⟩ rfl rfl) (kl_preS hK (kw_Pl hP) (kw_Dl hD) hE hN hS (kw_free hD hS hA)) rfl rfl hl.1 rfl (lv_room (Nat.le_of_ble_eq_true rfl)) dL_law_440 ⟨(by omega), (by omega)⟩) hP hD hS hA (fun k z2 H locs hpo hP hD hS => ?_)
  refine W.widen (k := cells + 8) (n := slots + 321) (by omega) (by omega) ?_
  refine lv_istore hx hb dL_law_443 hl (by decide) rfl (fun ls hl => ?_)
  have hl : lv_has ls 7 [(5, .int k), (4, .int (nI i)), (0, .ref sb), (1, .ref hd), (2, .ref (b 0)), (3, .ref ho)] := hl
  refine lv_aload_n hx hb dL_law_445 rfl (lv_at hl 4 rfl) ?_
  refine lv_aload_n hx hb dL_law_446 rfl (lv_at hl 2 rfl) ?_
  refine lv_iload hx hb dL_law_447 (lv_at hl 1 rfl) ?_
  refine lv_iconst (v := 1) hx hb dL_law_449 (by decide) ?_
  refine lv_iadd hx hb dL_law_450 ?_
  refine ks_ld hx hb hX hbl hbA hS 1 (by omega) hL rfl dL_law_451 ?_
  refine lv_aload_n hx hb dL_law_452 rfl (lv_at hl 2 rfl) ?_
  refine lv_iload hx hb dL_law_453 (lv_at hl 1 rfl) ?_
  refine lv_iconst (v := 2) hx hb dL_law_455 (by decide) ?_
  refine lv_iadd hx hb dL_law_456 ?_
  refine ks_ld hx hb hX hbl hbA hS 2 (by omega) hL rfl dL_law_457 ?_
  have hq : (mcells G b (scr σ u) ++ kz_w G hd ha ho z2).Perm (kz_w G hd ha ho z2 ++ mcells G b (scr σ u)) := List.perm_append_comm
  refine kg_reti (wc := mcells G b (scr σ u)) (wr := kz_w G hd ha ho z2) (va_runV (C := RM) (As := [.int (xs (i + 1)), .int (xs (i + 2))]) (rest := []) ⟨hx, hb, hml, hown, hg⟩ (c_M_part l D G b σ u (xs (i + 1)) (xs (i + 2)) _ _ hrd.2.2.1 hrd.2.2.2.1) ⟨kw_cB (n := 2) hg gw_688 gw_2 gw_685 (by decide +kernel) (by decide +kernel) ⟨Nat.le_trans (Nat.le_of_ble_eq_true rfl) hR.1, Nat.le_trans (Nat.le_of_ble_eq_true rfl) hR.2⟩ rfl rfl, hg _ gw_686, hg _ gw_687⟩ (kw_preV (q0 := 0) hK (kw_Pl (kw_Pp hP hq)) (kw_Dl (kw_Dp hD hq)) rfl rfl) rfl rfl hl.1 rfl (lv_room (Nat.le_of_ble_eq_true rfl)) dL_law_458 ⟨(by show (cells + 8) + 0 ≤ R.cells; omega), (by show (slots + 321) + 0 ≤ R.slots; omega)⟩) (kw_Pp hP hq) (kw_Dp hD hq) hS hA (fun r u2 H locs hr2 hP hD hS => ?_)
  have hP := kw_Pp hP (List.perm_append_comm : (kz_w G hd ha ho z2 ++ mcells G b (scr (kM_part σ (xs (i + 1)) (xs (i + 2))).2 u2)).Perm (mcells G b (scr (kM_part σ (xs (i + 1)) (xs (i + 2))).2 u2) ++ kz_w G hd ha ho z2))
  have hD := kw_Dp hD (List.perm_append_comm : (kz_w G hd ha ho z2 ++ mcells G b (scr (kM_part σ (xs (i + 1)) (xs (i + 2))).2 u2)).Perm (mcells G b (scr (kM_part σ (xs (i + 1)) (xs (i + 2))).2 u2) ++ kz_w G hd ha ho z2))
  refine lv_istore hx hb dL_law_461 hl (by decide) rfl (fun ls hl => ?_)
  have hl : lv_has ls 7 [(6, .int r), (5, .int k), (4, .int (nI i)), (0, .ref sb), (1, .ref hd), (2, .ref (b 0)), (3, .ref ho)] := hl
  refine lv_aload_n hx hb dL_law_463 rfl (lv_at hl 5 rfl) ?_
  have hq : (mcells G b (scr (kM_part σ (xs (i + 1)) (xs (i + 2))).2 u2) ++ kz_w G hd ha ho z2).Perm (kz_w G hd ha ho z2 ++ mcells G b (scr (kM_part σ (xs (i + 1)) (xs (i + 2))).2 u2)) := List.perm_append_comm
  refine kg_reti (wc := mcells G b (scr (kM_part σ (xs (i + 1)) (xs (i + 2))).2 u2)) (wr := kz_w G hd ha ho z2) (va_runV (C := RM) (As := []) (rest := []) ⟨hx, hb, hml, hown, hg⟩ (c_M_thrown l D G b (kM_part σ (xs (i + 1)) (xs (i + 2))).2 u2 _) ⟨kw_cB (n := 0) hg gw_583 gw_2 gw_580 (by decide +kernel) (by decide +kernel) ⟨Nat.le_trans (Nat.le_of_ble_eq_true rfl) hR.1, Nat.le_trans (Nat.le_of_ble_eq_true rfl) hR.2⟩ rfl rfl, hg _ gw_581, hg _ gw_582⟩ (kw_preV (q0 := 0) hK (kw_Pl (kw_Pp hP hq)) (kw_Dl (kw_Dp hD hq)) rfl rfl) rfl rfl hl.1 rfl (lv_room (Nat.le_of_ble_eq_true rfl)) dL_law_464 ⟨(by show (cells + 8) + 0 ≤ R.cells; omega), (by show (slots + 321) + 0 ≤ R.slots; omega)⟩) (kw_Pp hP hq) (kw_Dp hD hq) hS hA (fun w u3 H locs hw hP hD hS => ?_)
  have hP := kw_Pp hP (List.perm_append_comm : (kz_w G hd ha ho z2 ++ mcells G b (scr (kM_part σ (xs (i + 1)) (xs (i + 2))).2 u3)).Perm (mcells G b (scr (kM_part σ (xs (i + 1)) (xs (i + 2))).2 u3) ++ kz_w G hd ha ho z2))
  have hD := kw_Dp hD (List.perm_append_comm : (kz_w G hd ha ho z2 ++ mcells G b (scr (kM_part σ (xs (i + 1)) (xs (i + 2))).2 u3)).Perm (mcells G b (scr (kM_part σ (xs (i + 1)) (xs (i + 2))).2 u3) ++ kz_w G hd ha ho z2))
  refine lv_iload hx hb dL_law_467 (lv_at hl 1 rfl) ?_
  have ek : w = k := hw.trans hpo.1
  refine lv_icmp_eq (tgt := 474) hx hb dL_law_469 (by decide) (fun _ => ?_) (fun h => absurd ek h)
  refine lv_iload hx hb dL_law_474 (lv_at hl 1 rfl) ?_
  refine lv_if_ne (tgt := 491) hx hb dL_law_476 (by decide) (fun _ => ?_) (fun h0 => ?_)
  · refine lv_goto (tgt := 1177) hx hb dL_law_491 (by decide) ?_
    exact kk z2 (kM_part σ (xs (i + 1)) (xs (i + 2))).2 u3 _ _ _ hpo.2.2.1 hpo.2.2.2 hP hD hS (lv_sub hl [2, 3, 4, 5, 6] rfl)
  · refine lv_aload_n hx hb dL_law_479 rfl (lv_at hl 6 rfl) ?_
    refine lv_iconst (v := 0) hx hb dL_law_480 (by decide) ?_
    refine va_lald hx hb hK hP 0 2 rfl rfl (vp_in_nI (n := 0) (by decide) (by decide)) dL_law_481 ?_
    refine lv_iload hx hb dL_law_482 (lv_at hl 0 rfl) ?_
    refine lv_i2l hx hb dL_law_484 rfl ?_
    refine W.lcmp hx hb dL_law_485 ?_
    have eo : z2.2.1 0 = r.toInt64 := (hpo.2.1 h0).trans (congrArg Int32.toInt64 hr2).symm
    refine lv_if_eq (tgt := 491) hx hb dL_law_486 (by decide) (fun _ => ?_) (fun h => absurd ((lg_cmp_eq _ _).2 eo) h)
    refine lv_goto (tgt := 1177) hx hb dL_law_491 (by decide) ?_
    exact kk z2 (kM_part σ (xs (i + 1)) (xs (i + 2))).2 u3 _ _ _ hpo.2.2.1 hpo.2.2.2 hP hD hS (lv_sub hl [2, 3, 4, 5, 6] rfl)
set_option maxRecDepth 100000 in
set_option maxHeartbeats 4000000 in
theorem lw_date {p : Program} {l : Launch} {e : Env} {R : Room} {s : State} {m : MethodId} {args : Array Value} {below : List Frame} {meth : Method} {c : Code} {H : Heap} {locs : List Loc} {cells slots : Nat} {Q : State → Prop} {ls : Array Slot} (hlt : l.stackTraces = false) (hx : p.tables.exec = Jvm.exec) (hb : c.code = cL_law) (hml : c.maxLocals = 7) (hown : s.vm.findClass RL = some m.cls) (hg : ∀ w ∈ GW, w.before args s = true) {D : va_G} {G : Nat → ClassId} (hK : va_K D vwCl (gt G) s) {A : Nat → Prop} (hA : ∀ q, s.heap.size ≤ q → A q) (hE : kt_E A s) (hN : kl_N s) {sb L : Nat} {xs : Nat → Int32} (hX : va_X sb L xs s s.heap) (hbl : sb < s.heap.size) (hbA : ¬ A sb) (hR : 10 ≤ R.frames ∧ 300 ≤ R.locals) {hd ha ho : Nat} {b : Nat → Nat} {i : Nat} (hi : i + 7 ≤ L) (hL : L < 2 ^ 31) (hcs : cells + 8 ≤ R.cells ∧ slots + 321 ≤ R.slots) (z : kZ) (σ : KS) (u : Int32 × Int32 × Int32) (hrd : rd z.1 σ z.2.2.2) (hgz : kz_g z) (hP : va_P D vwCl (kz_w G hd ha ho z ++ mcells G b (scr σ u)) H) (hD : va_D A (kz_w G hd ha ho z ++ mcells G b (scr σ u))) (hS : va_S A s.heap H locs) (hl : lv_has ls 7 [(4, .int (nI i)), (0, .ref sb), (1, .ref hd), (2, .ref (b 0)), (3, .ref ho)])
    (kk : ∀ (z : kZ) (σ : KS) (u : Int32 × Int32 × Int32) (ls : Array Slot) (H : Heap) (locs : List Loc), rd z.1 σ z.2.2.2 → kz_g z → va_P D vwCl (kz_w G hd ha ho z ++ mcells G b (scr σ u)) H → va_D A (kz_w G hd ha ho z ++ mcells G b (scr σ u)) → va_S A s.heap H locs → lv_has ls 7 [(4, .int (nI i)), (0, .ref sb), (1, .ref hd), (2, .ref (b 0)), (3, .ref ho)] → W p l e R s m args below meth c H locs (cells + 8) (slots + 321) Q (F0 m 1177 ls [])) :
    W p l e R s m args below meth c H locs cells slots Q (F0 m 494 ls []) := by
  refine lv_aload_n hx hb dL_law_494 rfl (lv_at hl 2 rfl) ?_
  have hq0 : (kz_d G hd ha z ++ (ocl G ho z.2.1 ++ mcells G b (scr σ u))).Perm (kz_w G hd ha ho z ++ mcells G b (scr σ u)) := by
    unfold kz_w
    rw [← List.append_assoc]
    exact List.Perm.append_right _ List.perm_append_comm
  refine kw_reti (wc := kz_d G hd ha z) (wr := ocl G ho z.2.1 ++ mcells G b (scr σ u)) (va_runV (C := RD) (As := []) (rest := []) ⟨hx, hb, hml, hown, hg⟩ (c_D_date l D G hd ha (nI z.1.length) (nI z.2.2.2) z.2.2.1 (lfm G z.1) km0 _) ⟨kw_cB (n := 0) hg gw_40 gw_1 gw_37 (by decide +kernel) (by decide +kernel) ⟨Nat.le_trans (Nat.le_of_ble_eq_true rfl) hR.1, Nat.le_trans (Nat.le_of_ble_eq_true rfl) hR.2⟩ rfl rfl, hg _ gw_38, hg _ gw_39⟩ (kw_preV (q0 := 0) hK (kw_Pl (kw_Pp hP hq0)) (kw_Dl (kw_Dp hD hq0)) rfl rfl) rfl rfl hl.1 rfl (lv_room (Nat.le_of_ble_eq_true rfl)) dL_law_495 ⟨(by show cells + 0 ≤ R.cells; omega), (by show slots + 0 ≤ R.slots; omega)⟩) (kw_Pp hP hq0) (kw_Dp hD hq0) hS hA (fun H locs hP hD hS => ?_)
  have hP : va_P D vwCl (kz_w G hd ha ho z ++ mcells G b (scr σ u)) H := kw_Pp hP hq0.symm
  have hD : va_D A (kz_w G hd ha ho z ++ mcells G b (scr σ u)) := kw_Dp hD hq0.symm
  refine lv_aload_n hx hb dL_law_498 rfl (lv_at hl 3 rfl) ?_
  have hq : (mcells G b (scr σ u) ++ kz_w G hd ha ho z).Perm (kz_w G hd ha ho z ++ mcells G b (scr σ u)) := List.perm_append_comm
  refine kg_reti (wc := mcells G b (scr σ u)) (wr := kz_w G hd ha ho z) (va_runV (C := RM) (As := []) (rest := [.int (kD_date km0 (nI z.2.2.2))]) ⟨hx, hb, hml, hown, hg⟩ (c_M_date l D G b σ u _) ⟨kw_cB (n := 0) hg gw_587 gw_2 gw_584 (by decide +kernel) (by decide +kernel) ⟨Nat.le_trans (Nat.le_of_ble_eq_true rfl) hR.1, Nat.le_trans (Nat.le_of_ble_eq_true rfl) hR.2⟩ rfl rfl, hg _ gw_585, hg _ gw_586⟩ (kw_preV (q0 := 0) hK (kw_Pl (kw_Pp hP hq)) (kw_Dl (kw_Dp hD hq)) rfl rfl) rfl rfl hl.1 rfl (lv_room (Nat.le_of_ble_eq_true rfl)) dL_law_499 ⟨(by show cells + 0 ≤ R.cells; omega), (by show slots + 0 ≤ R.slots; omega)⟩) (kw_Pp hP hq) (kw_Dp hD hq) hS hA (fun r u2 H locs hr2 hP hD hS => ?_)
  have hP := kw_Pp hP (List.perm_append_comm : (kz_w G hd ha ho z ++ mcells G b (scr (kM_date σ).2 u2)).Perm (mcells G b (scr (kM_date σ).2 u2) ++ kz_w G hd ha ho z))
  have hD := kw_Dp hD (List.perm_append_comm : (kz_w G hd ha ho z ++ mcells G b (scr (kM_date σ).2 u2)).Perm (mcells G b (scr (kM_date σ).2 u2) ++ kz_w G hd ha ho z))
  have hdt := rd_date hrd
  refine lv_icmp_eq (tgt := 1177) hx hb dL_law_502 (by decide) (fun _ => ?_) (fun h => absurd (hdt.1.trans hr2.symm) h)
  refine W.widen (k := cells + 8) (n := slots + 321) (by omega) (by omega) ?_
  exact kk z (kM_date σ).2 u2 _ _ _ hdt.2 hgz hP hD hS hl
set_option maxRecDepth 100000 in
set_option maxHeartbeats 4000000 in
theorem lw_due {p : Program} {l : Launch} {e : Env} {R : Room} {s : State} {m : MethodId} {args : Array Value} {below : List Frame} {meth : Method} {c : Code} {H : Heap} {locs : List Loc} {cells slots : Nat} {Q : State → Prop} {ls : Array Slot} (hlt : l.stackTraces = false) (hx : p.tables.exec = Jvm.exec) (hb : c.code = cL_law) (hml : c.maxLocals = 7) (hown : s.vm.findClass RL = some m.cls) (hg : ∀ w ∈ GW, w.before args s = true) {D : va_G} {G : Nat → ClassId} (hK : va_K D vwCl (gt G) s) {A : Nat → Prop} (hA : ∀ q, s.heap.size ≤ q → A q) (hE : kt_E A s) (hN : kl_N s) {sb L : Nat} {xs : Nat → Int32} (hX : va_X sb L xs s s.heap) (hbl : sb < s.heap.size) (hbA : ¬ A sb) (hR : 10 ≤ R.frames ∧ 300 ≤ R.locals) {hd ha ho : Nat} {b : Nat → Nat} {i : Nat} (hi : i + 7 ≤ L) (hL : L < 2 ^ 31) (hcs : cells + 8 ≤ R.cells ∧ slots + 321 ≤ R.slots) (z : kZ) (σ : KS) (u : Int32 × Int32 × Int32) (hrd : rd z.1 σ z.2.2.2) (hgz : kz_g z) (hP : va_P D vwCl (kz_w G hd ha ho z ++ mcells G b (scr σ u)) H) (hD : va_D A (kz_w G hd ha ho z ++ mcells G b (scr σ u))) (hS : va_S A s.heap H locs) (hl : lv_has ls 7 [(4, .int (nI i)), (0, .ref sb), (1, .ref hd), (2, .ref (b 0)), (3, .ref ho)])
    (kk : ∀ (z : kZ) (σ : KS) (u : Int32 × Int32 × Int32) (ls : Array Slot) (H : Heap) (locs : List Loc), rd z.1 σ z.2.2.2 → kz_g z → va_P D vwCl (kz_w G hd ha ho z ++ mcells G b (scr σ u)) H → va_D A (kz_w G hd ha ho z ++ mcells G b (scr σ u)) → va_S A s.heap H locs → lv_has ls 7 [(4, .int (nI i)), (0, .ref sb), (1, .ref hd), (2, .ref (b 0)), (3, .ref ho)] → W p l e R s m args below meth c H locs (cells + 8) (slots + 321) Q (F0 m 1177 ls [])) :
    W p l e R s m args below meth c H locs cells slots Q (F0 m 507 ls []) := by
  refine lv_aload_n hx hb dL_law_507 rfl (lv_at hl 2 rfl) ?_
  refine lv_aload_n hx hb dL_law_508 rfl (lv_at hl 1 rfl) ?_
  refine lv_iload hx hb dL_law_509 (lv_at hl 0 rfl) ?_
  refine lv_iconst (v := 1) hx hb dL_law_511 (by decide) ?_
  refine lv_iadd hx hb dL_law_512 ?_
  refine ks_ld hx hb hX hbl hbA hS 1 (by omega) hL rfl dL_law_513 ?_
  refine lv_aload_n hx hb dL_law_514 rfl (lv_at hl 1 rfl) ?_
  refine lv_iload hx hb dL_law_515 (lv_at hl 0 rfl) ?_
  refine lv_iconst (v := 2) hx hb dL_law_517 (by decide) ?_
  refine lv_iadd hx hb dL_law_518 ?_
  refine ks_ld hx hb hX hbl hbA hS 2 (by omega) hL rfl dL_law_519 ?_
  refine lv_aload_n hx hb dL_law_520 rfl (lv_at hl 4 rfl) ?_
  obtain ⟨mc, ms, hmc, hms, hM⟩ := km_due l hlt D G hd ha ho z σ hrd hgz (xs (i + 1)) (xs (i + 2))
  refine kg_reti (wc := kz_w G hd ha ho z) (wr := mcells G b (scr σ u)) (vx_runSW (As := [.ref hd, .int (xs (i + 1)), .int (xs (i + 2)), .ref ho]) (rest := []) ⟨hx, hb, hml, hown, hg⟩ (hM _) (kl_cSW (n := 4) hg gw_401 gw_0 gw_399 gw_400 (by decide +kernel) (by decide +kernel) ⟨Nat.le_trans (Nat.le_of_ble_eq_true rfl) hR.1, Nat.le_trans (Nat.le_of_ble_eq_true rfl) hR.2⟩ rfl rfl) (kl_preS hK (kw_Pl hP) (kw_Dl hD) hE hN hS (kw_free hD hS hA)) rfl rfl hl.1 rfl (lv_room (Nat.le_of_ble_eq_true rfl)) dL_law_521 ⟨(by omega), (by omega)⟩) hP hD hS hA (fun k z2 H locs hpo hP hD hS => ?_)
  refine W.widen (k := cells + 8) (n := slots + 321) (by omega) (by omega) ?_
  refine lv_istore hx hb dL_law_524 hl (by decide) rfl (fun ls hl => ?_)
  have hl : lv_has ls 7 [(5, .int k), (4, .int (nI i)), (0, .ref sb), (1, .ref hd), (2, .ref (b 0)), (3, .ref ho)] := hl
  refine lv_aload_n hx hb dL_law_526 rfl (lv_at hl 4 rfl) ?_
  refine lv_aload_n hx hb dL_law_527 rfl (lv_at hl 2 rfl) ?_
  refine lv_iload hx hb dL_law_528 (lv_at hl 1 rfl) ?_
  refine lv_iconst (v := 1) hx hb dL_law_530 (by decide) ?_
  refine lv_iadd hx hb dL_law_531 ?_
  refine ks_ld hx hb hX hbl hbA hS 1 (by omega) hL rfl dL_law_532 ?_
  refine lv_aload_n hx hb dL_law_533 rfl (lv_at hl 2 rfl) ?_
  refine lv_iload hx hb dL_law_534 (lv_at hl 1 rfl) ?_
  refine lv_iconst (v := 2) hx hb dL_law_536 (by decide) ?_
  refine lv_iadd hx hb dL_law_537 ?_
  refine ks_ld hx hb hX hbl hbA hS 2 (by omega) hL rfl dL_law_538 ?_
  have hq : (mcells G b (scr σ u) ++ kz_w G hd ha ho z2).Perm (kz_w G hd ha ho z2 ++ mcells G b (scr σ u)) := List.perm_append_comm
  refine kg_reti (wc := mcells G b (scr σ u)) (wr := kz_w G hd ha ho z2) (va_runV (C := RM) (As := [.int (xs (i + 1)), .int (xs (i + 2))]) (rest := []) ⟨hx, hb, hml, hown, hg⟩ (c_M_due l D G b σ u (xs (i + 1)) (xs (i + 2)) _ _ hrd.2.2.1 hrd.2.2.2.1) ⟨kw_cB (n := 2) hg gw_692 gw_2 gw_689 (by decide +kernel) (by decide +kernel) ⟨Nat.le_trans (Nat.le_of_ble_eq_true rfl) hR.1, Nat.le_trans (Nat.le_of_ble_eq_true rfl) hR.2⟩ rfl rfl, hg _ gw_690, hg _ gw_691⟩ (kw_preV (q0 := 0) hK (kw_Pl (kw_Pp hP hq)) (kw_Dl (kw_Dp hD hq)) rfl rfl) rfl rfl hl.1 rfl (lv_room (Nat.le_of_ble_eq_true rfl)) dL_law_539 ⟨(by show (cells + 8) + 0 ≤ R.cells; omega), (by show (slots + 321) + 0 ≤ R.slots; omega)⟩) (kw_Pp hP hq) (kw_Dp hD hq) hS hA (fun r u2 H locs hr2 hP hD hS => ?_)
  have hP := kw_Pp hP (List.perm_append_comm : (kz_w G hd ha ho z2 ++ mcells G b (scr (kM_due σ (xs (i + 1)) (xs (i + 2))).2 u2)).Perm (mcells G b (scr (kM_due σ (xs (i + 1)) (xs (i + 2))).2 u2) ++ kz_w G hd ha ho z2))
  have hD := kw_Dp hD (List.perm_append_comm : (kz_w G hd ha ho z2 ++ mcells G b (scr (kM_due σ (xs (i + 1)) (xs (i + 2))).2 u2)).Perm (mcells G b (scr (kM_due σ (xs (i + 1)) (xs (i + 2))).2 u2) ++ kz_w G hd ha ho z2))
  refine lv_istore hx hb dL_law_542 hl (by decide) rfl (fun ls hl => ?_)
  have hl : lv_has ls 7 [(6, .int r), (5, .int k), (4, .int (nI i)), (0, .ref sb), (1, .ref hd), (2, .ref (b 0)), (3, .ref ho)] := hl
  refine lv_aload_n hx hb dL_law_544 rfl (lv_at hl 5 rfl) ?_
  have hq : (mcells G b (scr (kM_due σ (xs (i + 1)) (xs (i + 2))).2 u2) ++ kz_w G hd ha ho z2).Perm (kz_w G hd ha ho z2 ++ mcells G b (scr (kM_due σ (xs (i + 1)) (xs (i + 2))).2 u2)) := List.perm_append_comm
  refine kg_reti (wc := mcells G b (scr (kM_due σ (xs (i + 1)) (xs (i + 2))).2 u2)) (wr := kz_w G hd ha ho z2) (va_runV (C := RM) (As := []) (rest := []) ⟨hx, hb, hml, hown, hg⟩ (c_M_thrown l D G b (kM_due σ (xs (i + 1)) (xs (i + 2))).2 u2 _) ⟨kw_cB (n := 0) hg gw_583 gw_2 gw_580 (by decide +kernel) (by decide +kernel) ⟨Nat.le_trans (Nat.le_of_ble_eq_true rfl) hR.1, Nat.le_trans (Nat.le_of_ble_eq_true rfl) hR.2⟩ rfl rfl, hg _ gw_581, hg _ gw_582⟩ (kw_preV (q0 := 0) hK (kw_Pl (kw_Pp hP hq)) (kw_Dl (kw_Dp hD hq)) rfl rfl) rfl rfl hl.1 rfl (lv_room (Nat.le_of_ble_eq_true rfl)) dL_law_545 ⟨(by show (cells + 8) + 0 ≤ R.cells; omega), (by show (slots + 321) + 0 ≤ R.slots; omega)⟩) (kw_Pp hP hq) (kw_Dp hD hq) hS hA (fun w u3 H locs hw hP hD hS => ?_)
  have hP := kw_Pp hP (List.perm_append_comm : (kz_w G hd ha ho z2 ++ mcells G b (scr (kM_due σ (xs (i + 1)) (xs (i + 2))).2 u3)).Perm (mcells G b (scr (kM_due σ (xs (i + 1)) (xs (i + 2))).2 u3) ++ kz_w G hd ha ho z2))
  have hD := kw_Dp hD (List.perm_append_comm : (kz_w G hd ha ho z2 ++ mcells G b (scr (kM_due σ (xs (i + 1)) (xs (i + 2))).2 u3)).Perm (mcells G b (scr (kM_due σ (xs (i + 1)) (xs (i + 2))).2 u3) ++ kz_w G hd ha ho z2))
  refine lv_iload hx hb dL_law_548 (lv_at hl 1 rfl) ?_
  have ek : w = k := hw.trans hpo.1
  refine lv_icmp_eq (tgt := 555) hx hb dL_law_550 (by decide) (fun _ => ?_) (fun h => absurd ek h)
  refine lv_iload hx hb dL_law_555 (lv_at hl 1 rfl) ?_
  refine lv_if_ne (tgt := 572) hx hb dL_law_557 (by decide) (fun _ => ?_) (fun h0 => ?_)
  · refine lv_goto (tgt := 1177) hx hb dL_law_572 (by decide) ?_
    exact kk z2 (kM_due σ (xs (i + 1)) (xs (i + 2))).2 u3 _ _ _ hpo.2.2.1 hpo.2.2.2 hP hD hS (lv_sub hl [2, 3, 4, 5, 6] rfl)
  · refine lv_aload_n hx hb dL_law_560 rfl (lv_at hl 6 rfl) ?_
    refine lv_iconst (v := 0) hx hb dL_law_561 (by decide) ?_
    refine va_lald hx hb hK hP 0 2 rfl rfl (vp_in_nI (n := 0) (by decide) (by decide)) dL_law_562 ?_
    refine lv_iload hx hb dL_law_563 (lv_at hl 0 rfl) ?_
    refine lv_i2l hx hb dL_law_565 rfl ?_
    refine W.lcmp hx hb dL_law_566 ?_
    have eo : z2.2.1 0 = r.toInt64 := (hpo.2.1 h0).trans (congrArg Int32.toInt64 hr2).symm
    refine lv_if_eq (tgt := 572) hx hb dL_law_567 (by decide) (fun _ => ?_) (fun h => absurd ((lg_cmp_eq _ _).2 eo) h)
    refine lv_goto (tgt := 1177) hx hb dL_law_572 (by decide) ?_
    exact kk z2 (kM_due σ (xs (i + 1)) (xs (i + 2))).2 u3 _ _ _ hpo.2.2.1 hpo.2.2.2 hP hD hS (lv_sub hl [2, 3, 4, 5, 6] rfl)
set_option maxRecDepth 100000 in
set_option maxHeartbeats 4000000 in
theorem lw_principal {p : Program} {l : Launch} {e : Env} {R : Room} {s : State} {m : MethodId} {args : Array Value} {below : List Frame} {meth : Method} {c : Code} {H : Heap} {locs : List Loc} {cells slots : Nat} {Q : State → Prop} {ls : Array Slot} (hlt : l.stackTraces = false) (hx : p.tables.exec = Jvm.exec) (hb : c.code = cL_law) (hml : c.maxLocals = 7) (hown : s.vm.findClass RL = some m.cls) (hg : ∀ w ∈ GW, w.before args s = true) {D : va_G} {G : Nat → ClassId} (hK : va_K D vwCl (gt G) s) {A : Nat → Prop} (hA : ∀ q, s.heap.size ≤ q → A q) (hE : kt_E A s) (hN : kl_N s) {sb L : Nat} {xs : Nat → Int32} (hX : va_X sb L xs s s.heap) (hbl : sb < s.heap.size) (hbA : ¬ A sb) (hR : 10 ≤ R.frames ∧ 300 ≤ R.locals) {hd ha ho : Nat} {b : Nat → Nat} {i : Nat} (hi : i + 7 ≤ L) (hL : L < 2 ^ 31) (hcs : cells + 8 ≤ R.cells ∧ slots + 321 ≤ R.slots) (z : kZ) (σ : KS) (u : Int32 × Int32 × Int32) (hrd : rd z.1 σ z.2.2.2) (hgz : kz_g z) (hP : va_P D vwCl (kz_w G hd ha ho z ++ mcells G b (scr σ u)) H) (hD : va_D A (kz_w G hd ha ho z ++ mcells G b (scr σ u))) (hS : va_S A s.heap H locs) (hl : lv_has ls 7 [(4, .int (nI i)), (0, .ref sb), (1, .ref hd), (2, .ref (b 0)), (3, .ref ho)])
    (kk : ∀ (z : kZ) (σ : KS) (u : Int32 × Int32 × Int32) (ls : Array Slot) (H : Heap) (locs : List Loc), rd z.1 σ z.2.2.2 → kz_g z → va_P D vwCl (kz_w G hd ha ho z ++ mcells G b (scr σ u)) H → va_D A (kz_w G hd ha ho z ++ mcells G b (scr σ u)) → va_S A s.heap H locs → lv_has ls 7 [(4, .int (nI i)), (0, .ref sb), (1, .ref hd), (2, .ref (b 0)), (3, .ref ho)] → W p l e R s m args below meth c H locs (cells + 8) (slots + 321) Q (F0 m 1177 ls [])) :
    W p l e R s m args below meth c H locs cells slots Q (F0 m 575 ls []) := by
  refine lv_aload_n hx hb dL_law_575 rfl (lv_at hl 2 rfl) ?_
  refine lv_aload_n hx hb dL_law_576 rfl (lv_at hl 1 rfl) ?_
  refine lv_iload hx hb dL_law_577 (lv_at hl 0 rfl) ?_
  refine lv_iconst (v := 1) hx hb dL_law_579 (by decide) ?_
  refine lv_iadd hx hb dL_law_580 ?_
  refine ks_ld hx hb hX hbl hbA hS 1 (by omega) hL rfl dL_law_581 ?_
  refine lv_aload_n hx hb dL_law_582 rfl (lv_at hl 4 rfl) ?_
  obtain ⟨mc, ms, hmc, hms, hM⟩ := km_principal l hlt D G hd ha ho z σ hrd hgz (xs (i + 1))
  refine kg_reti (wc := kz_w G hd ha ho z) (wr := mcells G b (scr σ u)) (vx_runSW (As := [.ref hd, .int (xs (i + 1)), .ref ho]) (rest := []) ⟨hx, hb, hml, hown, hg⟩ (hM _) (kl_cSW (n := 3) hg gw_409 gw_0 gw_407 gw_408 (by decide +kernel) (by decide +kernel) ⟨Nat.le_trans (Nat.le_of_ble_eq_true rfl) hR.1, Nat.le_trans (Nat.le_of_ble_eq_true rfl) hR.2⟩ rfl rfl) (kl_preS hK (kw_Pl hP) (kw_Dl hD) hE hN hS (kw_free hD hS hA)) rfl rfl hl.1 rfl (lv_room (Nat.le_of_ble_eq_true rfl)) dL_law_583 ⟨(by omega), (by omega)⟩) hP hD hS hA (fun k z2 H locs hpo hP hD hS => ?_)
  refine W.widen (k := cells + 8) (n := slots + 321) (by omega) (by omega) ?_
  refine lv_istore hx hb dL_law_586 hl (by decide) rfl (fun ls hl => ?_)
  have hl : lv_has ls 7 [(5, .int k), (4, .int (nI i)), (0, .ref sb), (1, .ref hd), (2, .ref (b 0)), (3, .ref ho)] := hl
  refine lv_aload_n hx hb dL_law_588 rfl (lv_at hl 4 rfl) ?_
  refine lv_aload_n hx hb dL_law_589 rfl (lv_at hl 2 rfl) ?_
  refine lv_iload hx hb dL_law_590 (lv_at hl 1 rfl) ?_
  refine lv_iconst (v := 1) hx hb dL_law_592 (by decide) ?_
  refine lv_iadd hx hb dL_law_593 ?_
  refine ks_ld hx hb hX hbl hbA hS 1 (by omega) hL rfl dL_law_594 ?_
  have hq : (mcells G b (scr σ u) ++ kz_w G hd ha ho z2).Perm (kz_w G hd ha ho z2 ++ mcells G b (scr σ u)) := List.perm_append_comm
  refine kg_reti (wc := mcells G b (scr σ u)) (wr := kz_w G hd ha ho z2) (va_runV (C := RM) (As := [.int (xs (i + 1))]) (rest := []) ⟨hx, hb, hml, hown, hg⟩ (c_M_principal l D G b σ u (xs (i + 1)) _ _ hrd.2.2.1 hrd.2.2.2.1) ⟨kw_cB (n := 1) hg gw_696 gw_2 gw_693 (by decide +kernel) (by decide +kernel) ⟨Nat.le_trans (Nat.le_of_ble_eq_true rfl) hR.1, Nat.le_trans (Nat.le_of_ble_eq_true rfl) hR.2⟩ rfl rfl, hg _ gw_694, hg _ gw_695⟩ (kw_preV (q0 := 0) hK (kw_Pl (kw_Pp hP hq)) (kw_Dl (kw_Dp hD hq)) rfl rfl) rfl rfl hl.1 rfl (lv_room (Nat.le_of_ble_eq_true rfl)) dL_law_595 ⟨(by show (cells + 8) + 0 ≤ R.cells; omega), (by show (slots + 321) + 0 ≤ R.slots; omega)⟩) (kw_Pp hP hq) (kw_Dp hD hq) hS hA (fun r u2 H locs hr2 hP hD hS => ?_)
  have hP := kw_Pp hP (List.perm_append_comm : (kz_w G hd ha ho z2 ++ mcells G b (scr (kM_principal σ (xs (i + 1))).2 u2)).Perm (mcells G b (scr (kM_principal σ (xs (i + 1))).2 u2) ++ kz_w G hd ha ho z2))
  have hD := kw_Dp hD (List.perm_append_comm : (kz_w G hd ha ho z2 ++ mcells G b (scr (kM_principal σ (xs (i + 1))).2 u2)).Perm (mcells G b (scr (kM_principal σ (xs (i + 1))).2 u2) ++ kz_w G hd ha ho z2))
  refine lv_istore hx hb dL_law_598 hl (by decide) rfl (fun ls hl => ?_)
  have hl : lv_has ls 7 [(6, .int r), (5, .int k), (4, .int (nI i)), (0, .ref sb), (1, .ref hd), (2, .ref (b 0)), (3, .ref ho)] := hl
  refine lv_aload_n hx hb dL_law_600 rfl (lv_at hl 5 rfl) ?_
  have hq : (mcells G b (scr (kM_principal σ (xs (i + 1))).2 u2) ++ kz_w G hd ha ho z2).Perm (kz_w G hd ha ho z2 ++ mcells G b (scr (kM_principal σ (xs (i + 1))).2 u2)) := List.perm_append_comm
  refine kg_reti (wc := mcells G b (scr (kM_principal σ (xs (i + 1))).2 u2)) (wr := kz_w G hd ha ho z2) (va_runV (C := RM) (As := []) (rest := []) ⟨hx, hb, hml, hown, hg⟩ (c_M_thrown l D G b (kM_principal σ (xs (i + 1))).2 u2 _) ⟨kw_cB (n := 0) hg gw_583 gw_2 gw_580 (by decide +kernel) (by decide +kernel) ⟨Nat.le_trans (Nat.le_of_ble_eq_true rfl) hR.1, Nat.le_trans (Nat.le_of_ble_eq_true rfl) hR.2⟩ rfl rfl, hg _ gw_581, hg _ gw_582⟩ (kw_preV (q0 := 0) hK (kw_Pl (kw_Pp hP hq)) (kw_Dl (kw_Dp hD hq)) rfl rfl) rfl rfl hl.1 rfl (lv_room (Nat.le_of_ble_eq_true rfl)) dL_law_601 ⟨(by show (cells + 8) + 0 ≤ R.cells; omega), (by show (slots + 321) + 0 ≤ R.slots; omega)⟩) (kw_Pp hP hq) (kw_Dp hD hq) hS hA (fun w u3 H locs hw hP hD hS => ?_)
  have hP := kw_Pp hP (List.perm_append_comm : (kz_w G hd ha ho z2 ++ mcells G b (scr (kM_principal σ (xs (i + 1))).2 u3)).Perm (mcells G b (scr (kM_principal σ (xs (i + 1))).2 u3) ++ kz_w G hd ha ho z2))
  have hD := kw_Dp hD (List.perm_append_comm : (kz_w G hd ha ho z2 ++ mcells G b (scr (kM_principal σ (xs (i + 1))).2 u3)).Perm (mcells G b (scr (kM_principal σ (xs (i + 1))).2 u3) ++ kz_w G hd ha ho z2))
  refine lv_iload hx hb dL_law_604 (lv_at hl 1 rfl) ?_
  have ek : w = k := hw.trans hpo.1
  refine lv_icmp_eq (tgt := 611) hx hb dL_law_606 (by decide) (fun _ => ?_) (fun h => absurd ek h)
  refine lv_iload hx hb dL_law_611 (lv_at hl 1 rfl) ?_
  refine lv_if_ne (tgt := 628) hx hb dL_law_613 (by decide) (fun _ => ?_) (fun h0 => ?_)
  · refine lv_goto (tgt := 1177) hx hb dL_law_628 (by decide) ?_
    exact kk z2 (kM_principal σ (xs (i + 1))).2 u3 _ _ _ hpo.2.2.1 hpo.2.2.2 hP hD hS (lv_sub hl [2, 3, 4, 5, 6] rfl)
  · refine lv_aload_n hx hb dL_law_616 rfl (lv_at hl 6 rfl) ?_
    refine lv_iconst (v := 0) hx hb dL_law_617 (by decide) ?_
    refine va_lald hx hb hK hP 0 2 rfl rfl (vp_in_nI (n := 0) (by decide) (by decide)) dL_law_618 ?_
    refine lv_iload hx hb dL_law_619 (lv_at hl 0 rfl) ?_
    refine lv_i2l hx hb dL_law_621 rfl ?_
    refine W.lcmp hx hb dL_law_622 ?_
    have eo : z2.2.1 0 = r.toInt64 := (hpo.2.1 h0).trans (congrArg Int32.toInt64 hr2).symm
    refine lv_if_eq (tgt := 628) hx hb dL_law_623 (by decide) (fun _ => ?_) (fun h => absurd ((lg_cmp_eq _ _).2 eo) h)
    refine lv_goto (tgt := 1177) hx hb dL_law_628 (by decide) ?_
    exact kk z2 (kM_principal σ (xs (i + 1))).2 u3 _ _ _ hpo.2.2.1 hpo.2.2.2 hP hD hS (lv_sub hl [2, 3, 4, 5, 6] rfl)
set_option maxRecDepth 100000 in
set_option maxHeartbeats 4000000 in
theorem lw_level {p : Program} {l : Launch} {e : Env} {R : Room} {s : State} {m : MethodId} {args : Array Value} {below : List Frame} {meth : Method} {c : Code} {H : Heap} {locs : List Loc} {cells slots : Nat} {Q : State → Prop} {ls : Array Slot} (hlt : l.stackTraces = false) (hx : p.tables.exec = Jvm.exec) (hb : c.code = cL_law) (hml : c.maxLocals = 7) (hown : s.vm.findClass RL = some m.cls) (hg : ∀ w ∈ GW, w.before args s = true) {D : va_G} {G : Nat → ClassId} (hK : va_K D vwCl (gt G) s) {A : Nat → Prop} (hA : ∀ q, s.heap.size ≤ q → A q) (hE : kt_E A s) (hN : kl_N s) {sb L : Nat} {xs : Nat → Int32} (hX : va_X sb L xs s s.heap) (hbl : sb < s.heap.size) (hbA : ¬ A sb) (hR : 10 ≤ R.frames ∧ 300 ≤ R.locals) {hd ha ho : Nat} {b : Nat → Nat} {i : Nat} (hi : i + 7 ≤ L) (hL : L < 2 ^ 31) (hcs : cells + 8 ≤ R.cells ∧ slots + 321 ≤ R.slots) (z : kZ) (σ : KS) (u : Int32 × Int32 × Int32) (hrd : rd z.1 σ z.2.2.2) (hgz : kz_g z) (hP : va_P D vwCl (kz_w G hd ha ho z ++ mcells G b (scr σ u)) H) (hD : va_D A (kz_w G hd ha ho z ++ mcells G b (scr σ u))) (hS : va_S A s.heap H locs) (hl : lv_has ls 7 [(4, .int (nI i)), (0, .ref sb), (1, .ref hd), (2, .ref (b 0)), (3, .ref ho)])
    (kk : ∀ (z : kZ) (σ : KS) (u : Int32 × Int32 × Int32) (ls : Array Slot) (H : Heap) (locs : List Loc), rd z.1 σ z.2.2.2 → kz_g z → va_P D vwCl (kz_w G hd ha ho z ++ mcells G b (scr σ u)) H → va_D A (kz_w G hd ha ho z ++ mcells G b (scr σ u)) → va_S A s.heap H locs → lv_has ls 7 [(4, .int (nI i)), (0, .ref sb), (1, .ref hd), (2, .ref (b 0)), (3, .ref ho)] → W p l e R s m args below meth c H locs (cells + 8) (slots + 321) Q (F0 m 1177 ls [])) :
    W p l e R s m args below meth c H locs cells slots Q (F0 m 631 ls []) := by
  refine lv_aload_n hx hb dL_law_631 rfl (lv_at hl 2 rfl) ?_
  refine lv_aload_n hx hb dL_law_632 rfl (lv_at hl 1 rfl) ?_
  refine lv_iload hx hb dL_law_633 (lv_at hl 0 rfl) ?_
  refine lv_iconst (v := 1) hx hb dL_law_635 (by decide) ?_
  refine lv_iadd hx hb dL_law_636 ?_
  refine ks_ld hx hb hX hbl hbA hS 1 (by omega) hL rfl dL_law_637 ?_
  refine lv_aload_n hx hb dL_law_638 rfl (lv_at hl 4 rfl) ?_
  obtain ⟨mc, ms, hmc, hms, hM⟩ := km_level l hlt D G hd ha ho z σ hrd hgz (xs (i + 1))
  refine kg_reti (wc := kz_w G hd ha ho z) (wr := mcells G b (scr σ u)) (vx_runSW (As := [.ref hd, .int (xs (i + 1)), .ref ho]) (rest := []) ⟨hx, hb, hml, hown, hg⟩ (hM _) (kl_cSW (n := 3) hg gw_416 gw_0 gw_414 gw_415 (by decide +kernel) (by decide +kernel) ⟨Nat.le_trans (Nat.le_of_ble_eq_true rfl) hR.1, Nat.le_trans (Nat.le_of_ble_eq_true rfl) hR.2⟩ rfl rfl) (kl_preS hK (kw_Pl hP) (kw_Dl hD) hE hN hS (kw_free hD hS hA)) rfl rfl hl.1 rfl (lv_room (Nat.le_of_ble_eq_true rfl)) dL_law_639 ⟨(by omega), (by omega)⟩) hP hD hS hA (fun k z2 H locs hpo hP hD hS => ?_)
  refine W.widen (k := cells + 8) (n := slots + 321) (by omega) (by omega) ?_
  refine lv_istore hx hb dL_law_642 hl (by decide) rfl (fun ls hl => ?_)
  have hl : lv_has ls 7 [(5, .int k), (4, .int (nI i)), (0, .ref sb), (1, .ref hd), (2, .ref (b 0)), (3, .ref ho)] := hl
  refine lv_aload_n hx hb dL_law_644 rfl (lv_at hl 4 rfl) ?_
  refine lv_aload_n hx hb dL_law_645 rfl (lv_at hl 2 rfl) ?_
  refine lv_iload hx hb dL_law_646 (lv_at hl 1 rfl) ?_
  refine lv_iconst (v := 1) hx hb dL_law_648 (by decide) ?_
  refine lv_iadd hx hb dL_law_649 ?_
  refine ks_ld hx hb hX hbl hbA hS 1 (by omega) hL rfl dL_law_650 ?_
  have hq : (mcells G b (scr σ u) ++ kz_w G hd ha ho z2).Perm (kz_w G hd ha ho z2 ++ mcells G b (scr σ u)) := List.perm_append_comm
  refine kg_reti (wc := mcells G b (scr σ u)) (wr := kz_w G hd ha ho z2) (va_runV (C := RM) (As := [.int (xs (i + 1))]) (rest := []) ⟨hx, hb, hml, hown, hg⟩ (c_M_level l D G b σ u (xs (i + 1)) _ _ hrd.2.2.1 hrd.2.2.2.1) ⟨kw_cB (n := 1) hg gw_706 gw_2 gw_703 (by decide +kernel) (by decide +kernel) ⟨Nat.le_trans (Nat.le_of_ble_eq_true rfl) hR.1, Nat.le_trans (Nat.le_of_ble_eq_true rfl) hR.2⟩ rfl rfl, hg _ gw_704, hg _ gw_705⟩ (kw_preV (q0 := 0) hK (kw_Pl (kw_Pp hP hq)) (kw_Dl (kw_Dp hD hq)) rfl rfl) rfl rfl hl.1 rfl (lv_room (Nat.le_of_ble_eq_true rfl)) dL_law_651 ⟨(by show (cells + 8) + 0 ≤ R.cells; omega), (by show (slots + 321) + 0 ≤ R.slots; omega)⟩) (kw_Pp hP hq) (kw_Dp hD hq) hS hA (fun r u2 H locs hr2 hP hD hS => ?_)
  have hP := kw_Pp hP (List.perm_append_comm : (kz_w G hd ha ho z2 ++ mcells G b (scr (kM_level σ (xs (i + 1))).2 u2)).Perm (mcells G b (scr (kM_level σ (xs (i + 1))).2 u2) ++ kz_w G hd ha ho z2))
  have hD := kw_Dp hD (List.perm_append_comm : (kz_w G hd ha ho z2 ++ mcells G b (scr (kM_level σ (xs (i + 1))).2 u2)).Perm (mcells G b (scr (kM_level σ (xs (i + 1))).2 u2) ++ kz_w G hd ha ho z2))
  refine lv_istore hx hb dL_law_654 hl (by decide) rfl (fun ls hl => ?_)
  have hl : lv_has ls 7 [(6, .int r), (5, .int k), (4, .int (nI i)), (0, .ref sb), (1, .ref hd), (2, .ref (b 0)), (3, .ref ho)] := hl
  refine lv_aload_n hx hb dL_law_656 rfl (lv_at hl 5 rfl) ?_
  have hq : (mcells G b (scr (kM_level σ (xs (i + 1))).2 u2) ++ kz_w G hd ha ho z2).Perm (kz_w G hd ha ho z2 ++ mcells G b (scr (kM_level σ (xs (i + 1))).2 u2)) := List.perm_append_comm
  refine kg_reti (wc := mcells G b (scr (kM_level σ (xs (i + 1))).2 u2)) (wr := kz_w G hd ha ho z2) (va_runV (C := RM) (As := []) (rest := []) ⟨hx, hb, hml, hown, hg⟩ (c_M_thrown l D G b (kM_level σ (xs (i + 1))).2 u2 _) ⟨kw_cB (n := 0) hg gw_583 gw_2 gw_580 (by decide +kernel) (by decide +kernel) ⟨Nat.le_trans (Nat.le_of_ble_eq_true rfl) hR.1, Nat.le_trans (Nat.le_of_ble_eq_true rfl) hR.2⟩ rfl rfl, hg _ gw_581, hg _ gw_582⟩ (kw_preV (q0 := 0) hK (kw_Pl (kw_Pp hP hq)) (kw_Dl (kw_Dp hD hq)) rfl rfl) rfl rfl hl.1 rfl (lv_room (Nat.le_of_ble_eq_true rfl)) dL_law_657 ⟨(by show (cells + 8) + 0 ≤ R.cells; omega), (by show (slots + 321) + 0 ≤ R.slots; omega)⟩) (kw_Pp hP hq) (kw_Dp hD hq) hS hA (fun w u3 H locs hw hP hD hS => ?_)
  have hP := kw_Pp hP (List.perm_append_comm : (kz_w G hd ha ho z2 ++ mcells G b (scr (kM_level σ (xs (i + 1))).2 u3)).Perm (mcells G b (scr (kM_level σ (xs (i + 1))).2 u3) ++ kz_w G hd ha ho z2))
  have hD := kw_Dp hD (List.perm_append_comm : (kz_w G hd ha ho z2 ++ mcells G b (scr (kM_level σ (xs (i + 1))).2 u3)).Perm (mcells G b (scr (kM_level σ (xs (i + 1))).2 u3) ++ kz_w G hd ha ho z2))
  refine lv_iload hx hb dL_law_660 (lv_at hl 1 rfl) ?_
  have ek : w = k := hw.trans hpo.1
  refine lv_icmp_eq (tgt := 667) hx hb dL_law_662 (by decide) (fun _ => ?_) (fun h => absurd ek h)
  refine lv_iload hx hb dL_law_667 (lv_at hl 1 rfl) ?_
  refine lv_if_ne (tgt := 684) hx hb dL_law_669 (by decide) (fun _ => ?_) (fun h0 => ?_)
  · refine lv_goto (tgt := 1177) hx hb dL_law_684 (by decide) ?_
    exact kk z2 (kM_level σ (xs (i + 1))).2 u3 _ _ _ hpo.2.2.1 hpo.2.2.2 hP hD hS (lv_sub hl [2, 3, 4, 5, 6] rfl)
  · refine lv_aload_n hx hb dL_law_672 rfl (lv_at hl 6 rfl) ?_
    refine lv_iconst (v := 0) hx hb dL_law_673 (by decide) ?_
    refine va_lald hx hb hK hP 0 2 rfl rfl (vp_in_nI (n := 0) (by decide) (by decide)) dL_law_674 ?_
    refine lv_iload hx hb dL_law_675 (lv_at hl 0 rfl) ?_
    refine lv_i2l hx hb dL_law_677 rfl ?_
    refine W.lcmp hx hb dL_law_678 ?_
    have eo : z2.2.1 0 = r.toInt64 := (hpo.2.1 h0).trans (congrArg Int32.toInt64 hr2).symm
    refine lv_if_eq (tgt := 684) hx hb dL_law_679 (by decide) (fun _ => ?_) (fun h => absurd ((lg_cmp_eq _ _).2 eo) h)
    refine lv_goto (tgt := 1177) hx hb dL_law_684 (by decide) ?_
    exact kk z2 (kM_level σ (xs (i + 1))).2 u3 _ _ _ hpo.2.2.1 hpo.2.2.2 hP hD hS (lv_sub hl [2, 3, 4, 5, 6] rfl)
set_option maxRecDepth 100000 in
set_option maxHeartbeats 4000000 in
theorem lw_accrued {p : Program} {l : Launch} {e : Env} {R : Room} {s : State} {m : MethodId} {args : Array Value} {below : List Frame} {meth : Method} {c : Code} {H : Heap} {locs : List Loc} {cells slots : Nat} {Q : State → Prop} {ls : Array Slot} (hlt : l.stackTraces = false) (hx : p.tables.exec = Jvm.exec) (hb : c.code = cL_law) (hml : c.maxLocals = 7) (hown : s.vm.findClass RL = some m.cls) (hg : ∀ w ∈ GW, w.before args s = true) {D : va_G} {G : Nat → ClassId} (hK : va_K D vwCl (gt G) s) {A : Nat → Prop} (hA : ∀ q, s.heap.size ≤ q → A q) (hE : kt_E A s) (hN : kl_N s) {sb L : Nat} {xs : Nat → Int32} (hX : va_X sb L xs s s.heap) (hbl : sb < s.heap.size) (hbA : ¬ A sb) (hR : 10 ≤ R.frames ∧ 300 ≤ R.locals) {hd ha ho : Nat} {b : Nat → Nat} {i : Nat} (hi : i + 7 ≤ L) (hL : L < 2 ^ 31) (hcs : cells + 8 ≤ R.cells ∧ slots + 321 ≤ R.slots) (z : kZ) (σ : KS) (u : Int32 × Int32 × Int32) (hrd : rd z.1 σ z.2.2.2) (hgz : kz_g z) (hP : va_P D vwCl (kz_w G hd ha ho z ++ mcells G b (scr σ u)) H) (hD : va_D A (kz_w G hd ha ho z ++ mcells G b (scr σ u))) (hS : va_S A s.heap H locs) (hl : lv_has ls 7 [(4, .int (nI i)), (0, .ref sb), (1, .ref hd), (2, .ref (b 0)), (3, .ref ho)])
    (kk : ∀ (z : kZ) (σ : KS) (u : Int32 × Int32 × Int32) (ls : Array Slot) (H : Heap) (locs : List Loc), rd z.1 σ z.2.2.2 → kz_g z → va_P D vwCl (kz_w G hd ha ho z ++ mcells G b (scr σ u)) H → va_D A (kz_w G hd ha ho z ++ mcells G b (scr σ u)) → va_S A s.heap H locs → lv_has ls 7 [(4, .int (nI i)), (0, .ref sb), (1, .ref hd), (2, .ref (b 0)), (3, .ref ho)] → W p l e R s m args below meth c H locs (cells + 8) (slots + 321) Q (F0 m 1177 ls [])) :
    W p l e R s m args below meth c H locs cells slots Q (F0 m 687 ls []) := by
  refine lv_aload_n hx hb dL_law_687 rfl (lv_at hl 2 rfl) ?_
  refine lv_aload_n hx hb dL_law_688 rfl (lv_at hl 1 rfl) ?_
  refine lv_iload hx hb dL_law_689 (lv_at hl 0 rfl) ?_
  refine lv_iconst (v := 1) hx hb dL_law_691 (by decide) ?_
  refine lv_iadd hx hb dL_law_692 ?_
  refine ks_ld hx hb hX hbl hbA hS 1 (by omega) hL rfl dL_law_693 ?_
  refine lv_aload_n hx hb dL_law_694 rfl (lv_at hl 4 rfl) ?_
  obtain ⟨mc, ms, hmc, hms, hM⟩ := km_accrued l hlt D G hd ha ho z σ hrd hgz (xs (i + 1))
  refine kg_reti (wc := kz_w G hd ha ho z) (wr := mcells G b (scr σ u)) (vx_runSW (As := [.ref hd, .int (xs (i + 1)), .ref ho]) (rest := []) ⟨hx, hb, hml, hown, hg⟩ (hM _) (kl_cSW (n := 3) hg gw_423 gw_0 gw_421 gw_422 (by decide +kernel) (by decide +kernel) ⟨Nat.le_trans (Nat.le_of_ble_eq_true rfl) hR.1, Nat.le_trans (Nat.le_of_ble_eq_true rfl) hR.2⟩ rfl rfl) (kl_preS hK (kw_Pl hP) (kw_Dl hD) hE hN hS (kw_free hD hS hA)) rfl rfl hl.1 rfl (lv_room (Nat.le_of_ble_eq_true rfl)) dL_law_695 ⟨(by omega), (by omega)⟩) hP hD hS hA (fun k z2 H locs hpo hP hD hS => ?_)
  refine W.widen (k := cells + 8) (n := slots + 321) (by omega) (by omega) ?_
  refine lv_istore hx hb dL_law_698 hl (by decide) rfl (fun ls hl => ?_)
  have hl : lv_has ls 7 [(5, .int k), (4, .int (nI i)), (0, .ref sb), (1, .ref hd), (2, .ref (b 0)), (3, .ref ho)] := hl
  refine lv_aload_n hx hb dL_law_700 rfl (lv_at hl 4 rfl) ?_
  refine lv_aload_n hx hb dL_law_701 rfl (lv_at hl 2 rfl) ?_
  refine lv_iload hx hb dL_law_702 (lv_at hl 1 rfl) ?_
  refine lv_iconst (v := 1) hx hb dL_law_704 (by decide) ?_
  refine lv_iadd hx hb dL_law_705 ?_
  refine ks_ld hx hb hX hbl hbA hS 1 (by omega) hL rfl dL_law_706 ?_
  have hq : (mcells G b (scr σ u) ++ kz_w G hd ha ho z2).Perm (kz_w G hd ha ho z2 ++ mcells G b (scr σ u)) := List.perm_append_comm
  refine kg_reti (wc := mcells G b (scr σ u)) (wr := kz_w G hd ha ho z2) (va_runV (C := RM) (As := [.int (xs (i + 1))]) (rest := []) ⟨hx, hb, hml, hown, hg⟩ (c_M_accrued l D G b σ u (xs (i + 1)) _ _ hrd.2.2.1 hrd.2.2.2.1 (rd_today hrd)) ⟨kw_cB (n := 1) hg gw_710 gw_2 gw_707 (by decide +kernel) (by decide +kernel) ⟨Nat.le_trans (Nat.le_of_ble_eq_true rfl) hR.1, Nat.le_trans (Nat.le_of_ble_eq_true rfl) hR.2⟩ rfl rfl, hg _ gw_708, hg _ gw_709⟩ (kw_preV (q0 := 0) hK (kw_Pl (kw_Pp hP hq)) (kw_Dl (kw_Dp hD hq)) rfl rfl) rfl rfl hl.1 rfl (lv_room (Nat.le_of_ble_eq_true rfl)) dL_law_707 ⟨(by show (cells + 8) + 0 ≤ R.cells; omega), (by show (slots + 321) + 0 ≤ R.slots; omega)⟩) (kw_Pp hP hq) (kw_Dp hD hq) hS hA (fun r u2 H locs hr2 hP hD hS => ?_)
  have hP := kw_Pp hP (List.perm_append_comm : (kz_w G hd ha ho z2 ++ mcells G b (scr (kM_accrued σ (xs (i + 1))).2 u2)).Perm (mcells G b (scr (kM_accrued σ (xs (i + 1))).2 u2) ++ kz_w G hd ha ho z2))
  have hD := kw_Dp hD (List.perm_append_comm : (kz_w G hd ha ho z2 ++ mcells G b (scr (kM_accrued σ (xs (i + 1))).2 u2)).Perm (mcells G b (scr (kM_accrued σ (xs (i + 1))).2 u2) ++ kz_w G hd ha ho z2))
  refine lv_istore hx hb dL_law_710 hl (by decide) rfl (fun ls hl => ?_)
  have hl : lv_has ls 7 [(6, .int r), (5, .int k), (4, .int (nI i)), (0, .ref sb), (1, .ref hd), (2, .ref (b 0)), (3, .ref ho)] := hl
  refine lv_aload_n hx hb dL_law_712 rfl (lv_at hl 5 rfl) ?_
  have hq : (mcells G b (scr (kM_accrued σ (xs (i + 1))).2 u2) ++ kz_w G hd ha ho z2).Perm (kz_w G hd ha ho z2 ++ mcells G b (scr (kM_accrued σ (xs (i + 1))).2 u2)) := List.perm_append_comm
  refine kg_reti (wc := mcells G b (scr (kM_accrued σ (xs (i + 1))).2 u2)) (wr := kz_w G hd ha ho z2) (va_runV (C := RM) (As := []) (rest := []) ⟨hx, hb, hml, hown, hg⟩ (c_M_thrown l D G b (kM_accrued σ (xs (i + 1))).2 u2 _) ⟨kw_cB (n := 0) hg gw_583 gw_2 gw_580 (by decide +kernel) (by decide +kernel) ⟨Nat.le_trans (Nat.le_of_ble_eq_true rfl) hR.1, Nat.le_trans (Nat.le_of_ble_eq_true rfl) hR.2⟩ rfl rfl, hg _ gw_581, hg _ gw_582⟩ (kw_preV (q0 := 0) hK (kw_Pl (kw_Pp hP hq)) (kw_Dl (kw_Dp hD hq)) rfl rfl) rfl rfl hl.1 rfl (lv_room (Nat.le_of_ble_eq_true rfl)) dL_law_713 ⟨(by show (cells + 8) + 0 ≤ R.cells; omega), (by show (slots + 321) + 0 ≤ R.slots; omega)⟩) (kw_Pp hP hq) (kw_Dp hD hq) hS hA (fun w u3 H locs hw hP hD hS => ?_)
  have hP := kw_Pp hP (List.perm_append_comm : (kz_w G hd ha ho z2 ++ mcells G b (scr (kM_accrued σ (xs (i + 1))).2 u3)).Perm (mcells G b (scr (kM_accrued σ (xs (i + 1))).2 u3) ++ kz_w G hd ha ho z2))
  have hD := kw_Dp hD (List.perm_append_comm : (kz_w G hd ha ho z2 ++ mcells G b (scr (kM_accrued σ (xs (i + 1))).2 u3)).Perm (mcells G b (scr (kM_accrued σ (xs (i + 1))).2 u3) ++ kz_w G hd ha ho z2))
  refine lv_iload hx hb dL_law_716 (lv_at hl 1 rfl) ?_
  have ek : w = k := hw.trans hpo.1
  refine lv_icmp_eq (tgt := 723) hx hb dL_law_718 (by decide) (fun _ => ?_) (fun h => absurd ek h)
  refine lv_iload hx hb dL_law_723 (lv_at hl 1 rfl) ?_
  refine lv_if_ne (tgt := 740) hx hb dL_law_725 (by decide) (fun _ => ?_) (fun h0 => ?_)
  · refine lv_goto (tgt := 1177) hx hb dL_law_740 (by decide) ?_
    exact kk z2 (kM_accrued σ (xs (i + 1))).2 u3 _ _ _ hpo.2.2.1 hpo.2.2.2 hP hD hS (lv_sub hl [2, 3, 4, 5, 6] rfl)
  · refine lv_aload_n hx hb dL_law_728 rfl (lv_at hl 6 rfl) ?_
    refine lv_iconst (v := 0) hx hb dL_law_729 (by decide) ?_
    refine va_lald hx hb hK hP 0 2 rfl rfl (vp_in_nI (n := 0) (by decide) (by decide)) dL_law_730 ?_
    refine lv_iload hx hb dL_law_731 (lv_at hl 0 rfl) ?_
    refine lv_i2l hx hb dL_law_733 rfl ?_
    refine W.lcmp hx hb dL_law_734 ?_
    have eo : z2.2.1 0 = r.toInt64 := (hpo.2.1 h0).trans (congrArg Int32.toInt64 hr2).symm
    refine lv_if_eq (tgt := 740) hx hb dL_law_735 (by decide) (fun _ => ?_) (fun h => absurd ((lg_cmp_eq _ _).2 eo) h)
    refine lv_goto (tgt := 1177) hx hb dL_law_740 (by decide) ?_
    exact kk z2 (kM_accrued σ (xs (i + 1))).2 u3 _ _ _ hpo.2.2.1 hpo.2.2.2 hP hD hS (lv_sub hl [2, 3, 4, 5, 6] rfl)
set_option maxRecDepth 100000 in
set_option maxHeartbeats 4000000 in
theorem lw_owed {p : Program} {l : Launch} {e : Env} {R : Room} {s : State} {m : MethodId} {args : Array Value} {below : List Frame} {meth : Method} {c : Code} {H : Heap} {locs : List Loc} {cells slots : Nat} {Q : State → Prop} {ls : Array Slot} (hlt : l.stackTraces = false) (hx : p.tables.exec = Jvm.exec) (hb : c.code = cL_law) (hml : c.maxLocals = 7) (hown : s.vm.findClass RL = some m.cls) (hg : ∀ w ∈ GW, w.before args s = true) {D : va_G} {G : Nat → ClassId} (hK : va_K D vwCl (gt G) s) {A : Nat → Prop} (hA : ∀ q, s.heap.size ≤ q → A q) (hE : kt_E A s) (hN : kl_N s) {sb L : Nat} {xs : Nat → Int32} (hX : va_X sb L xs s s.heap) (hbl : sb < s.heap.size) (hbA : ¬ A sb) (hR : 10 ≤ R.frames ∧ 300 ≤ R.locals) {hd ha ho : Nat} {b : Nat → Nat} {i : Nat} (hi : i + 7 ≤ L) (hL : L < 2 ^ 31) (hcs : cells + 8 ≤ R.cells ∧ slots + 321 ≤ R.slots) (z : kZ) (σ : KS) (u : Int32 × Int32 × Int32) (hrd : rd z.1 σ z.2.2.2) (hgz : kz_g z) (hP : va_P D vwCl (kz_w G hd ha ho z ++ mcells G b (scr σ u)) H) (hD : va_D A (kz_w G hd ha ho z ++ mcells G b (scr σ u))) (hS : va_S A s.heap H locs) (hl : lv_has ls 7 [(4, .int (nI i)), (0, .ref sb), (1, .ref hd), (2, .ref (b 0)), (3, .ref ho)])
    (kk : ∀ (z : kZ) (σ : KS) (u : Int32 × Int32 × Int32) (ls : Array Slot) (H : Heap) (locs : List Loc), rd z.1 σ z.2.2.2 → kz_g z → va_P D vwCl (kz_w G hd ha ho z ++ mcells G b (scr σ u)) H → va_D A (kz_w G hd ha ho z ++ mcells G b (scr σ u)) → va_S A s.heap H locs → lv_has ls 7 [(4, .int (nI i)), (0, .ref sb), (1, .ref hd), (2, .ref (b 0)), (3, .ref ho)] → W p l e R s m args below meth c H locs (cells + 8) (slots + 321) Q (F0 m 1177 ls [])) :
    W p l e R s m args below meth c H locs cells slots Q (F0 m 743 ls []) := by
  refine lv_aload_n hx hb dL_law_743 rfl (lv_at hl 2 rfl) ?_
  refine lv_aload_n hx hb dL_law_744 rfl (lv_at hl 1 rfl) ?_
  refine lv_iload hx hb dL_law_745 (lv_at hl 0 rfl) ?_
  refine lv_iconst (v := 1) hx hb dL_law_747 (by decide) ?_
  refine lv_iadd hx hb dL_law_748 ?_
  refine ks_ld hx hb hX hbl hbA hS 1 (by omega) hL rfl dL_law_749 ?_
  refine lv_aload_n hx hb dL_law_750 rfl (lv_at hl 1 rfl) ?_
  refine lv_iload hx hb dL_law_751 (lv_at hl 0 rfl) ?_
  refine lv_iconst (v := 2) hx hb dL_law_753 (by decide) ?_
  refine lv_iadd hx hb dL_law_754 ?_
  refine ks_ld hx hb hX hbl hbA hS 2 (by omega) hL rfl dL_law_755 ?_
  refine lv_aload_n hx hb dL_law_756 rfl (lv_at hl 4 rfl) ?_
  obtain ⟨mc, ms, hmc, hms, hM⟩ := km_owed l hlt D G hd ha ho z σ hrd hgz (xs (i + 1)) (xs (i + 2))
  refine kg_reti (wc := kz_w G hd ha ho z) (wr := mcells G b (scr σ u)) (vx_runSW (As := [.ref hd, .int (xs (i + 1)), .int (xs (i + 2)), .ref ho]) (rest := []) ⟨hx, hb, hml, hown, hg⟩ (hM _) (kl_cSW (n := 4) hg gw_431 gw_0 gw_429 gw_430 (by decide +kernel) (by decide +kernel) ⟨Nat.le_trans (Nat.le_of_ble_eq_true rfl) hR.1, Nat.le_trans (Nat.le_of_ble_eq_true rfl) hR.2⟩ rfl rfl) (kl_preS hK (kw_Pl hP) (kw_Dl hD) hE hN hS (kw_free hD hS hA)) rfl rfl hl.1 rfl (lv_room (Nat.le_of_ble_eq_true rfl)) dL_law_757 ⟨(by omega), (by omega)⟩) hP hD hS hA (fun k z2 H locs hpo hP hD hS => ?_)
  refine W.widen (k := cells + 8) (n := slots + 321) (by omega) (by omega) ?_
  refine lv_istore hx hb dL_law_760 hl (by decide) rfl (fun ls hl => ?_)
  have hl : lv_has ls 7 [(5, .int k), (4, .int (nI i)), (0, .ref sb), (1, .ref hd), (2, .ref (b 0)), (3, .ref ho)] := hl
  refine lv_aload_n hx hb dL_law_762 rfl (lv_at hl 4 rfl) ?_
  refine lv_aload_n hx hb dL_law_763 rfl (lv_at hl 2 rfl) ?_
  refine lv_iload hx hb dL_law_764 (lv_at hl 1 rfl) ?_
  refine lv_iconst (v := 1) hx hb dL_law_766 (by decide) ?_
  refine lv_iadd hx hb dL_law_767 ?_
  refine ks_ld hx hb hX hbl hbA hS 1 (by omega) hL rfl dL_law_768 ?_
  refine lv_aload_n hx hb dL_law_769 rfl (lv_at hl 2 rfl) ?_
  refine lv_iload hx hb dL_law_770 (lv_at hl 1 rfl) ?_
  refine lv_iconst (v := 2) hx hb dL_law_772 (by decide) ?_
  refine lv_iadd hx hb dL_law_773 ?_
  refine ks_ld hx hb hX hbl hbA hS 2 (by omega) hL rfl dL_law_774 ?_
  have hq : (mcells G b (scr σ u) ++ kz_w G hd ha ho z2).Perm (kz_w G hd ha ho z2 ++ mcells G b (scr σ u)) := List.perm_append_comm
  refine kg_reti (wc := mcells G b (scr σ u)) (wr := kz_w G hd ha ho z2) (va_runV (C := RM) (As := [.int (xs (i + 1)), .int (xs (i + 2))]) (rest := []) ⟨hx, hb, hml, hown, hg⟩ (c_M_owed l D G b σ u (xs (i + 1)) (xs (i + 2)) _ _ hrd.2.2.1 hrd.2.2.2.1) ⟨kw_cB (n := 2) hg gw_714 gw_2 gw_711 (by decide +kernel) (by decide +kernel) ⟨Nat.le_trans (Nat.le_of_ble_eq_true rfl) hR.1, Nat.le_trans (Nat.le_of_ble_eq_true rfl) hR.2⟩ rfl rfl, hg _ gw_712, hg _ gw_713⟩ (kw_preV (q0 := 0) hK (kw_Pl (kw_Pp hP hq)) (kw_Dl (kw_Dp hD hq)) rfl rfl) rfl rfl hl.1 rfl (lv_room (Nat.le_of_ble_eq_true rfl)) dL_law_775 ⟨(by show (cells + 8) + 0 ≤ R.cells; omega), (by show (slots + 321) + 0 ≤ R.slots; omega)⟩) (kw_Pp hP hq) (kw_Dp hD hq) hS hA (fun r u2 H locs hr2 hP hD hS => ?_)
  have hP := kw_Pp hP (List.perm_append_comm : (kz_w G hd ha ho z2 ++ mcells G b (scr (kM_owed σ (xs (i + 1)) (xs (i + 2))).2 u2)).Perm (mcells G b (scr (kM_owed σ (xs (i + 1)) (xs (i + 2))).2 u2) ++ kz_w G hd ha ho z2))
  have hD := kw_Dp hD (List.perm_append_comm : (kz_w G hd ha ho z2 ++ mcells G b (scr (kM_owed σ (xs (i + 1)) (xs (i + 2))).2 u2)).Perm (mcells G b (scr (kM_owed σ (xs (i + 1)) (xs (i + 2))).2 u2) ++ kz_w G hd ha ho z2))
  refine lv_istore hx hb dL_law_778 hl (by decide) rfl (fun ls hl => ?_)
  have hl : lv_has ls 7 [(6, .int r), (5, .int k), (4, .int (nI i)), (0, .ref sb), (1, .ref hd), (2, .ref (b 0)), (3, .ref ho)] := hl
  refine lv_aload_n hx hb dL_law_780 rfl (lv_at hl 5 rfl) ?_
  have hq : (mcells G b (scr (kM_owed σ (xs (i + 1)) (xs (i + 2))).2 u2) ++ kz_w G hd ha ho z2).Perm (kz_w G hd ha ho z2 ++ mcells G b (scr (kM_owed σ (xs (i + 1)) (xs (i + 2))).2 u2)) := List.perm_append_comm
  refine kg_reti (wc := mcells G b (scr (kM_owed σ (xs (i + 1)) (xs (i + 2))).2 u2)) (wr := kz_w G hd ha ho z2) (va_runV (C := RM) (As := []) (rest := []) ⟨hx, hb, hml, hown, hg⟩ (c_M_thrown l D G b (kM_owed σ (xs (i + 1)) (xs (i + 2))).2 u2 _) ⟨kw_cB (n := 0) hg gw_583 gw_2 gw_580 (by decide +kernel) (by decide +kernel) ⟨Nat.le_trans (Nat.le_of_ble_eq_true rfl) hR.1, Nat.le_trans (Nat.le_of_ble_eq_true rfl) hR.2⟩ rfl rfl, hg _ gw_581, hg _ gw_582⟩ (kw_preV (q0 := 0) hK (kw_Pl (kw_Pp hP hq)) (kw_Dl (kw_Dp hD hq)) rfl rfl) rfl rfl hl.1 rfl (lv_room (Nat.le_of_ble_eq_true rfl)) dL_law_781 ⟨(by show (cells + 8) + 0 ≤ R.cells; omega), (by show (slots + 321) + 0 ≤ R.slots; omega)⟩) (kw_Pp hP hq) (kw_Dp hD hq) hS hA (fun w u3 H locs hw hP hD hS => ?_)
  have hP := kw_Pp hP (List.perm_append_comm : (kz_w G hd ha ho z2 ++ mcells G b (scr (kM_owed σ (xs (i + 1)) (xs (i + 2))).2 u3)).Perm (mcells G b (scr (kM_owed σ (xs (i + 1)) (xs (i + 2))).2 u3) ++ kz_w G hd ha ho z2))
  have hD := kw_Dp hD (List.perm_append_comm : (kz_w G hd ha ho z2 ++ mcells G b (scr (kM_owed σ (xs (i + 1)) (xs (i + 2))).2 u3)).Perm (mcells G b (scr (kM_owed σ (xs (i + 1)) (xs (i + 2))).2 u3) ++ kz_w G hd ha ho z2))
  refine lv_iload hx hb dL_law_784 (lv_at hl 1 rfl) ?_
  have ek : w = k := hw.trans hpo.1
  refine lv_icmp_eq (tgt := 791) hx hb dL_law_786 (by decide) (fun _ => ?_) (fun h => absurd ek h)
  refine lv_iload hx hb dL_law_791 (lv_at hl 1 rfl) ?_
  refine lv_if_ne (tgt := 808) hx hb dL_law_793 (by decide) (fun _ => ?_) (fun h0 => ?_)
  · refine lv_goto (tgt := 1177) hx hb dL_law_808 (by decide) ?_
    exact kk z2 (kM_owed σ (xs (i + 1)) (xs (i + 2))).2 u3 _ _ _ hpo.2.2.1 hpo.2.2.2 hP hD hS (lv_sub hl [2, 3, 4, 5, 6] rfl)
  · refine lv_aload_n hx hb dL_law_796 rfl (lv_at hl 6 rfl) ?_
    refine lv_iconst (v := 0) hx hb dL_law_797 (by decide) ?_
    refine va_lald hx hb hK hP 0 2 rfl rfl (vp_in_nI (n := 0) (by decide) (by decide)) dL_law_798 ?_
    refine lv_iload hx hb dL_law_799 (lv_at hl 0 rfl) ?_
    refine lv_i2l hx hb dL_law_801 rfl ?_
    refine W.lcmp hx hb dL_law_802 ?_
    have eo : z2.2.1 0 = r.toInt64 := (hpo.2.1 h0).trans (congrArg Int32.toInt64 hr2).symm
    refine lv_if_eq (tgt := 808) hx hb dL_law_803 (by decide) (fun _ => ?_) (fun h => absurd ((lg_cmp_eq _ _).2 eo) h)
    refine lv_goto (tgt := 1177) hx hb dL_law_808 (by decide) ?_
    exact kk z2 (kM_owed σ (xs (i + 1)) (xs (i + 2))).2 u3 _ _ _ hpo.2.2.1 hpo.2.2.2 hP hD hS (lv_sub hl [2, 3, 4, 5, 6] rfl)
set_option maxRecDepth 100000 in
set_option maxHeartbeats 4000000 in
theorem lw_escrow {p : Program} {l : Launch} {e : Env} {R : Room} {s : State} {m : MethodId} {args : Array Value} {below : List Frame} {meth : Method} {c : Code} {H : Heap} {locs : List Loc} {cells slots : Nat} {Q : State → Prop} {ls : Array Slot} (hlt : l.stackTraces = false) (hx : p.tables.exec = Jvm.exec) (hb : c.code = cL_law) (hml : c.maxLocals = 7) (hown : s.vm.findClass RL = some m.cls) (hg : ∀ w ∈ GW, w.before args s = true) {D : va_G} {G : Nat → ClassId} (hK : va_K D vwCl (gt G) s) {A : Nat → Prop} (hA : ∀ q, s.heap.size ≤ q → A q) (hE : kt_E A s) (hN : kl_N s) {sb L : Nat} {xs : Nat → Int32} (hX : va_X sb L xs s s.heap) (hbl : sb < s.heap.size) (hbA : ¬ A sb) (hR : 10 ≤ R.frames ∧ 300 ≤ R.locals) {hd ha ho : Nat} {b : Nat → Nat} {i : Nat} (hi : i + 7 ≤ L) (hL : L < 2 ^ 31) (hcs : cells + 8 ≤ R.cells ∧ slots + 321 ≤ R.slots) (z : kZ) (σ : KS) (u : Int32 × Int32 × Int32) (hrd : rd z.1 σ z.2.2.2) (hgz : kz_g z) (hP : va_P D vwCl (kz_w G hd ha ho z ++ mcells G b (scr σ u)) H) (hD : va_D A (kz_w G hd ha ho z ++ mcells G b (scr σ u))) (hS : va_S A s.heap H locs) (hl : lv_has ls 7 [(4, .int (nI i)), (0, .ref sb), (1, .ref hd), (2, .ref (b 0)), (3, .ref ho)])
    (kk : ∀ (z : kZ) (σ : KS) (u : Int32 × Int32 × Int32) (ls : Array Slot) (H : Heap) (locs : List Loc), rd z.1 σ z.2.2.2 → kz_g z → va_P D vwCl (kz_w G hd ha ho z ++ mcells G b (scr σ u)) H → va_D A (kz_w G hd ha ho z ++ mcells G b (scr σ u)) → va_S A s.heap H locs → lv_has ls 7 [(4, .int (nI i)), (0, .ref sb), (1, .ref hd), (2, .ref (b 0)), (3, .ref ho)] → W p l e R s m args below meth c H locs (cells + 8) (slots + 321) Q (F0 m 1177 ls [])) :
    W p l e R s m args below meth c H locs cells slots Q (F0 m 811 ls []) := by
  refine lv_aload_n hx hb dL_law_811 rfl (lv_at hl 2 rfl) ?_
  refine lv_aload_n hx hb dL_law_812 rfl (lv_at hl 1 rfl) ?_
  refine lv_iload hx hb dL_law_813 (lv_at hl 0 rfl) ?_
  refine lv_iconst (v := 1) hx hb dL_law_815 (by decide) ?_
  refine lv_iadd hx hb dL_law_816 ?_
  refine ks_ld hx hb hX hbl hbA hS 1 (by omega) hL rfl dL_law_817 ?_
  refine lv_aload_n hx hb dL_law_818 rfl (lv_at hl 4 rfl) ?_
  obtain ⟨mc, ms, hmc, hms, hM⟩ := km_escrow l hlt D G hd ha ho z σ hrd hgz (xs (i + 1))
  refine kg_reti (wc := kz_w G hd ha ho z) (wr := mcells G b (scr σ u)) (vx_runSW (As := [.ref hd, .int (xs (i + 1)), .ref ho]) (rest := []) ⟨hx, hb, hml, hown, hg⟩ (hM _) (kl_cSW (n := 3) hg gw_438 gw_0 gw_436 gw_437 (by decide +kernel) (by decide +kernel) ⟨Nat.le_trans (Nat.le_of_ble_eq_true rfl) hR.1, Nat.le_trans (Nat.le_of_ble_eq_true rfl) hR.2⟩ rfl rfl) (kl_preS hK (kw_Pl hP) (kw_Dl hD) hE hN hS (kw_free hD hS hA)) rfl rfl hl.1 rfl (lv_room (Nat.le_of_ble_eq_true rfl)) dL_law_819 ⟨(by omega), (by omega)⟩) hP hD hS hA (fun k z2 H locs hpo hP hD hS => ?_)
  refine W.widen (k := cells + 8) (n := slots + 321) (by omega) (by omega) ?_
  refine lv_istore hx hb dL_law_822 hl (by decide) rfl (fun ls hl => ?_)
  have hl : lv_has ls 7 [(5, .int k), (4, .int (nI i)), (0, .ref sb), (1, .ref hd), (2, .ref (b 0)), (3, .ref ho)] := hl
  refine lv_aload_n hx hb dL_law_824 rfl (lv_at hl 4 rfl) ?_
  refine lv_aload_n hx hb dL_law_825 rfl (lv_at hl 2 rfl) ?_
  refine lv_iload hx hb dL_law_826 (lv_at hl 1 rfl) ?_
  refine lv_iconst (v := 1) hx hb dL_law_828 (by decide) ?_
  refine lv_iadd hx hb dL_law_829 ?_
  refine ks_ld hx hb hX hbl hbA hS 1 (by omega) hL rfl dL_law_830 ?_
  have hq : (mcells G b (scr σ u) ++ kz_w G hd ha ho z2).Perm (kz_w G hd ha ho z2 ++ mcells G b (scr σ u)) := List.perm_append_comm
  refine kg_reti (wc := mcells G b (scr σ u)) (wr := kz_w G hd ha ho z2) (va_runV (C := RM) (As := [.int (xs (i + 1))]) (rest := []) ⟨hx, hb, hml, hown, hg⟩ (c_M_escrow l D G b σ u (xs (i + 1)) _ _ hrd.2.2.1 hrd.2.2.2.1) ⟨kw_cB (n := 1) hg gw_718 gw_2 gw_715 (by decide +kernel) (by decide +kernel) ⟨Nat.le_trans (Nat.le_of_ble_eq_true rfl) hR.1, Nat.le_trans (Nat.le_of_ble_eq_true rfl) hR.2⟩ rfl rfl, hg _ gw_716, hg _ gw_717⟩ (kw_preV (q0 := 0) hK (kw_Pl (kw_Pp hP hq)) (kw_Dl (kw_Dp hD hq)) rfl rfl) rfl rfl hl.1 rfl (lv_room (Nat.le_of_ble_eq_true rfl)) dL_law_831 ⟨(by show (cells + 8) + 0 ≤ R.cells; omega), (by show (slots + 321) + 0 ≤ R.slots; omega)⟩) (kw_Pp hP hq) (kw_Dp hD hq) hS hA (fun r u2 H locs hr2 hP hD hS => ?_)
  have hP := kw_Pp hP (List.perm_append_comm : (kz_w G hd ha ho z2 ++ mcells G b (scr (kM_escrow σ (xs (i + 1))).2 u2)).Perm (mcells G b (scr (kM_escrow σ (xs (i + 1))).2 u2) ++ kz_w G hd ha ho z2))
  have hD := kw_Dp hD (List.perm_append_comm : (kz_w G hd ha ho z2 ++ mcells G b (scr (kM_escrow σ (xs (i + 1))).2 u2)).Perm (mcells G b (scr (kM_escrow σ (xs (i + 1))).2 u2) ++ kz_w G hd ha ho z2))
  refine lv_istore hx hb dL_law_834 hl (by decide) rfl (fun ls hl => ?_)
  have hl : lv_has ls 7 [(6, .int r), (5, .int k), (4, .int (nI i)), (0, .ref sb), (1, .ref hd), (2, .ref (b 0)), (3, .ref ho)] := hl
  refine lv_aload_n hx hb dL_law_836 rfl (lv_at hl 5 rfl) ?_
  have hq : (mcells G b (scr (kM_escrow σ (xs (i + 1))).2 u2) ++ kz_w G hd ha ho z2).Perm (kz_w G hd ha ho z2 ++ mcells G b (scr (kM_escrow σ (xs (i + 1))).2 u2)) := List.perm_append_comm
  refine kg_reti (wc := mcells G b (scr (kM_escrow σ (xs (i + 1))).2 u2)) (wr := kz_w G hd ha ho z2) (va_runV (C := RM) (As := []) (rest := []) ⟨hx, hb, hml, hown, hg⟩ (c_M_thrown l D G b (kM_escrow σ (xs (i + 1))).2 u2 _) ⟨kw_cB (n := 0) hg gw_583 gw_2 gw_580 (by decide +kernel) (by decide +kernel) ⟨Nat.le_trans (Nat.le_of_ble_eq_true rfl) hR.1, Nat.le_trans (Nat.le_of_ble_eq_true rfl) hR.2⟩ rfl rfl, hg _ gw_581, hg _ gw_582⟩ (kw_preV (q0 := 0) hK (kw_Pl (kw_Pp hP hq)) (kw_Dl (kw_Dp hD hq)) rfl rfl) rfl rfl hl.1 rfl (lv_room (Nat.le_of_ble_eq_true rfl)) dL_law_837 ⟨(by show (cells + 8) + 0 ≤ R.cells; omega), (by show (slots + 321) + 0 ≤ R.slots; omega)⟩) (kw_Pp hP hq) (kw_Dp hD hq) hS hA (fun w u3 H locs hw hP hD hS => ?_)
  have hP := kw_Pp hP (List.perm_append_comm : (kz_w G hd ha ho z2 ++ mcells G b (scr (kM_escrow σ (xs (i + 1))).2 u3)).Perm (mcells G b (scr (kM_escrow σ (xs (i + 1))).2 u3) ++ kz_w G hd ha ho z2))
  have hD := kw_Dp hD (List.perm_append_comm : (kz_w G hd ha ho z2 ++ mcells G b (scr (kM_escrow σ (xs (i + 1))).2 u3)).Perm (mcells G b (scr (kM_escrow σ (xs (i + 1))).2 u3) ++ kz_w G hd ha ho z2))
  refine lv_iload hx hb dL_law_840 (lv_at hl 1 rfl) ?_
  have ek : w = k := hw.trans hpo.1
  refine lv_icmp_eq (tgt := 847) hx hb dL_law_842 (by decide) (fun _ => ?_) (fun h => absurd ek h)
  refine lv_iload hx hb dL_law_847 (lv_at hl 1 rfl) ?_
  refine lv_if_ne (tgt := 864) hx hb dL_law_849 (by decide) (fun _ => ?_) (fun h0 => ?_)
  · refine lv_goto (tgt := 1177) hx hb dL_law_864 (by decide) ?_
    exact kk z2 (kM_escrow σ (xs (i + 1))).2 u3 _ _ _ hpo.2.2.1 hpo.2.2.2 hP hD hS (lv_sub hl [2, 3, 4, 5, 6] rfl)
  · refine lv_aload_n hx hb dL_law_852 rfl (lv_at hl 6 rfl) ?_
    refine lv_iconst (v := 0) hx hb dL_law_853 (by decide) ?_
    refine va_lald hx hb hK hP 0 2 rfl rfl (vp_in_nI (n := 0) (by decide) (by decide)) dL_law_854 ?_
    refine lv_iload hx hb dL_law_855 (lv_at hl 0 rfl) ?_
    refine lv_i2l hx hb dL_law_857 rfl ?_
    refine W.lcmp hx hb dL_law_858 ?_
    have eo : z2.2.1 0 = r.toInt64 := (hpo.2.1 h0).trans (congrArg Int32.toInt64 hr2).symm
    refine lv_if_eq (tgt := 864) hx hb dL_law_859 (by decide) (fun _ => ?_) (fun h => absurd ((lg_cmp_eq _ _).2 eo) h)
    refine lv_goto (tgt := 1177) hx hb dL_law_864 (by decide) ?_
    exact kk z2 (kM_escrow σ (xs (i + 1))).2 u3 _ _ _ hpo.2.2.1 hpo.2.2.2 hP hD hS (lv_sub hl [2, 3, 4, 5, 6] rfl)
set_option maxRecDepth 100000 in
set_option maxHeartbeats 4000000 in
theorem lw_deposit {p : Program} {l : Launch} {e : Env} {R : Room} {s : State} {m : MethodId} {args : Array Value} {below : List Frame} {meth : Method} {c : Code} {H : Heap} {locs : List Loc} {cells slots : Nat} {Q : State → Prop} {ls : Array Slot} (hlt : l.stackTraces = false) (hx : p.tables.exec = Jvm.exec) (hb : c.code = cL_law) (hml : c.maxLocals = 7) (hown : s.vm.findClass RL = some m.cls) (hg : ∀ w ∈ GW, w.before args s = true) {D : va_G} {G : Nat → ClassId} (hK : va_K D vwCl (gt G) s) {A : Nat → Prop} (hA : ∀ q, s.heap.size ≤ q → A q) (hE : kt_E A s) (hN : kl_N s) {sb L : Nat} {xs : Nat → Int32} (hX : va_X sb L xs s s.heap) (hbl : sb < s.heap.size) (hbA : ¬ A sb) (hR : 10 ≤ R.frames ∧ 300 ≤ R.locals) {hd ha ho : Nat} {b : Nat → Nat} {i : Nat} (hi : i + 7 ≤ L) (hL : L < 2 ^ 31) (hcs : cells + 8 ≤ R.cells ∧ slots + 321 ≤ R.slots) (z : kZ) (σ : KS) (u : Int32 × Int32 × Int32) (hrd : rd z.1 σ z.2.2.2) (hgz : kz_g z) (hP : va_P D vwCl (kz_w G hd ha ho z ++ mcells G b (scr σ u)) H) (hD : va_D A (kz_w G hd ha ho z ++ mcells G b (scr σ u))) (hS : va_S A s.heap H locs) (hl : lv_has ls 7 [(4, .int (nI i)), (0, .ref sb), (1, .ref hd), (2, .ref (b 0)), (3, .ref ho)])
    (kk : ∀ (z : kZ) (σ : KS) (u : Int32 × Int32 × Int32) (ls : Array Slot) (H : Heap) (locs : List Loc), rd z.1 σ z.2.2.2 → kz_g z → va_P D vwCl (kz_w G hd ha ho z ++ mcells G b (scr σ u)) H → va_D A (kz_w G hd ha ho z ++ mcells G b (scr σ u)) → va_S A s.heap H locs → lv_has ls 7 [(4, .int (nI i)), (0, .ref sb), (1, .ref hd), (2, .ref (b 0)), (3, .ref ho)] → W p l e R s m args below meth c H locs (cells + 8) (slots + 321) Q (F0 m 1177 ls [])) :
    W p l e R s m args below meth c H locs cells slots Q (F0 m 867 ls []) := by
  refine lv_aload_n hx hb dL_law_867 rfl (lv_at hl 2 rfl) ?_
  refine lv_aload_n hx hb dL_law_868 rfl (lv_at hl 1 rfl) ?_
  refine lv_iload hx hb dL_law_869 (lv_at hl 0 rfl) ?_
  refine lv_iconst (v := 1) hx hb dL_law_871 (by decide) ?_
  refine lv_iadd hx hb dL_law_872 ?_
  refine ks_ld hx hb hX hbl hbA hS 1 (by omega) hL rfl dL_law_873 ?_
  refine lv_aload_n hx hb dL_law_874 rfl (lv_at hl 4 rfl) ?_
  obtain ⟨mc, ms, hmc, hms, hM⟩ := km_deposit l hlt D G hd ha ho z σ hrd hgz (xs (i + 1))
  refine kg_reti (wc := kz_w G hd ha ho z) (wr := mcells G b (scr σ u)) (vx_runSW (As := [.ref hd, .int (xs (i + 1)), .ref ho]) (rest := []) ⟨hx, hb, hml, hown, hg⟩ (hM _) (kl_cSW (n := 3) hg gw_445 gw_0 gw_443 gw_444 (by decide +kernel) (by decide +kernel) ⟨Nat.le_trans (Nat.le_of_ble_eq_true rfl) hR.1, Nat.le_trans (Nat.le_of_ble_eq_true rfl) hR.2⟩ rfl rfl) (kl_preS hK (kw_Pl hP) (kw_Dl hD) hE hN hS (kw_free hD hS hA)) rfl rfl hl.1 rfl (lv_room (Nat.le_of_ble_eq_true rfl)) dL_law_875 ⟨(by omega), (by omega)⟩) hP hD hS hA (fun k z2 H locs hpo hP hD hS => ?_)
  refine W.widen (k := cells + 8) (n := slots + 321) (by omega) (by omega) ?_
  refine lv_istore hx hb dL_law_878 hl (by decide) rfl (fun ls hl => ?_)
  have hl : lv_has ls 7 [(5, .int k), (4, .int (nI i)), (0, .ref sb), (1, .ref hd), (2, .ref (b 0)), (3, .ref ho)] := hl
  refine lv_aload_n hx hb dL_law_880 rfl (lv_at hl 4 rfl) ?_
  refine lv_aload_n hx hb dL_law_881 rfl (lv_at hl 2 rfl) ?_
  refine lv_iload hx hb dL_law_882 (lv_at hl 1 rfl) ?_
  refine lv_iconst (v := 1) hx hb dL_law_884 (by decide) ?_
  refine lv_iadd hx hb dL_law_885 ?_
  refine ks_ld hx hb hX hbl hbA hS 1 (by omega) hL rfl dL_law_886 ?_
  have hq : (mcells G b (scr σ u) ++ kz_w G hd ha ho z2).Perm (kz_w G hd ha ho z2 ++ mcells G b (scr σ u)) := List.perm_append_comm
  refine kg_reti (wc := mcells G b (scr σ u)) (wr := kz_w G hd ha ho z2) (va_runV (C := RM) (As := [.int (xs (i + 1))]) (rest := []) ⟨hx, hb, hml, hown, hg⟩ (c_M_deposit l D G b σ u (xs (i + 1)) _ _ hrd.2.2.1 hrd.2.2.2.1) ⟨kw_cB (n := 1) hg gw_722 gw_2 gw_719 (by decide +kernel) (by decide +kernel) ⟨Nat.le_trans (Nat.le_of_ble_eq_true rfl) hR.1, Nat.le_trans (Nat.le_of_ble_eq_true rfl) hR.2⟩ rfl rfl, hg _ gw_720, hg _ gw_721⟩ (kw_preV (q0 := 0) hK (kw_Pl (kw_Pp hP hq)) (kw_Dl (kw_Dp hD hq)) rfl rfl) rfl rfl hl.1 rfl (lv_room (Nat.le_of_ble_eq_true rfl)) dL_law_887 ⟨(by show (cells + 8) + 0 ≤ R.cells; omega), (by show (slots + 321) + 0 ≤ R.slots; omega)⟩) (kw_Pp hP hq) (kw_Dp hD hq) hS hA (fun r u2 H locs hr2 hP hD hS => ?_)
  have hP := kw_Pp hP (List.perm_append_comm : (kz_w G hd ha ho z2 ++ mcells G b (scr (kM_deposit σ (xs (i + 1))).2 u2)).Perm (mcells G b (scr (kM_deposit σ (xs (i + 1))).2 u2) ++ kz_w G hd ha ho z2))
  have hD := kw_Dp hD (List.perm_append_comm : (kz_w G hd ha ho z2 ++ mcells G b (scr (kM_deposit σ (xs (i + 1))).2 u2)).Perm (mcells G b (scr (kM_deposit σ (xs (i + 1))).2 u2) ++ kz_w G hd ha ho z2))
  refine lv_istore hx hb dL_law_890 hl (by decide) rfl (fun ls hl => ?_)
  have hl : lv_has ls 7 [(6, .int r), (5, .int k), (4, .int (nI i)), (0, .ref sb), (1, .ref hd), (2, .ref (b 0)), (3, .ref ho)] := hl
  refine lv_aload_n hx hb dL_law_892 rfl (lv_at hl 5 rfl) ?_
  have hq : (mcells G b (scr (kM_deposit σ (xs (i + 1))).2 u2) ++ kz_w G hd ha ho z2).Perm (kz_w G hd ha ho z2 ++ mcells G b (scr (kM_deposit σ (xs (i + 1))).2 u2)) := List.perm_append_comm
  refine kg_reti (wc := mcells G b (scr (kM_deposit σ (xs (i + 1))).2 u2)) (wr := kz_w G hd ha ho z2) (va_runV (C := RM) (As := []) (rest := []) ⟨hx, hb, hml, hown, hg⟩ (c_M_thrown l D G b (kM_deposit σ (xs (i + 1))).2 u2 _) ⟨kw_cB (n := 0) hg gw_583 gw_2 gw_580 (by decide +kernel) (by decide +kernel) ⟨Nat.le_trans (Nat.le_of_ble_eq_true rfl) hR.1, Nat.le_trans (Nat.le_of_ble_eq_true rfl) hR.2⟩ rfl rfl, hg _ gw_581, hg _ gw_582⟩ (kw_preV (q0 := 0) hK (kw_Pl (kw_Pp hP hq)) (kw_Dl (kw_Dp hD hq)) rfl rfl) rfl rfl hl.1 rfl (lv_room (Nat.le_of_ble_eq_true rfl)) dL_law_893 ⟨(by show (cells + 8) + 0 ≤ R.cells; omega), (by show (slots + 321) + 0 ≤ R.slots; omega)⟩) (kw_Pp hP hq) (kw_Dp hD hq) hS hA (fun w u3 H locs hw hP hD hS => ?_)
  have hP := kw_Pp hP (List.perm_append_comm : (kz_w G hd ha ho z2 ++ mcells G b (scr (kM_deposit σ (xs (i + 1))).2 u3)).Perm (mcells G b (scr (kM_deposit σ (xs (i + 1))).2 u3) ++ kz_w G hd ha ho z2))
  have hD := kw_Dp hD (List.perm_append_comm : (kz_w G hd ha ho z2 ++ mcells G b (scr (kM_deposit σ (xs (i + 1))).2 u3)).Perm (mcells G b (scr (kM_deposit σ (xs (i + 1))).2 u3) ++ kz_w G hd ha ho z2))
  refine lv_iload hx hb dL_law_896 (lv_at hl 1 rfl) ?_
  have ek : w = k := hw.trans hpo.1
  refine lv_icmp_eq (tgt := 903) hx hb dL_law_898 (by decide) (fun _ => ?_) (fun h => absurd ek h)
  refine lv_iload hx hb dL_law_903 (lv_at hl 1 rfl) ?_
  refine lv_if_ne (tgt := 920) hx hb dL_law_905 (by decide) (fun _ => ?_) (fun h0 => ?_)
  · refine lv_goto (tgt := 1177) hx hb dL_law_920 (by decide) ?_
    exact kk z2 (kM_deposit σ (xs (i + 1))).2 u3 _ _ _ hpo.2.2.1 hpo.2.2.2 hP hD hS (lv_sub hl [2, 3, 4, 5, 6] rfl)
  · refine lv_aload_n hx hb dL_law_908 rfl (lv_at hl 6 rfl) ?_
    refine lv_iconst (v := 0) hx hb dL_law_909 (by decide) ?_
    refine va_lald hx hb hK hP 0 2 rfl rfl (vp_in_nI (n := 0) (by decide) (by decide)) dL_law_910 ?_
    refine lv_iload hx hb dL_law_911 (lv_at hl 0 rfl) ?_
    refine lv_i2l hx hb dL_law_913 rfl ?_
    refine W.lcmp hx hb dL_law_914 ?_
    have eo : z2.2.1 0 = r.toInt64 := (hpo.2.1 h0).trans (congrArg Int32.toInt64 hr2).symm
    refine lv_if_eq (tgt := 920) hx hb dL_law_915 (by decide) (fun _ => ?_) (fun h => absurd ((lg_cmp_eq _ _).2 eo) h)
    refine lv_goto (tgt := 1177) hx hb dL_law_920 (by decide) ?_
    exact kk z2 (kM_deposit σ (xs (i + 1))).2 u3 _ _ _ hpo.2.2.1 hpo.2.2.2 hP hD hS (lv_sub hl [2, 3, 4, 5, 6] rfl)
set_option maxRecDepth 100000 in
set_option maxHeartbeats 4000000 in
theorem lw_bills {p : Program} {l : Launch} {e : Env} {R : Room} {s : State} {m : MethodId} {args : Array Value} {below : List Frame} {meth : Method} {c : Code} {H : Heap} {locs : List Loc} {cells slots : Nat} {Q : State → Prop} {ls : Array Slot} (hlt : l.stackTraces = false) (hx : p.tables.exec = Jvm.exec) (hb : c.code = cL_law) (hml : c.maxLocals = 7) (hown : s.vm.findClass RL = some m.cls) (hg : ∀ w ∈ GW, w.before args s = true) {D : va_G} {G : Nat → ClassId} (hK : va_K D vwCl (gt G) s) {A : Nat → Prop} (hA : ∀ q, s.heap.size ≤ q → A q) (hE : kt_E A s) (hN : kl_N s) {sb L : Nat} {xs : Nat → Int32} (hX : va_X sb L xs s s.heap) (hbl : sb < s.heap.size) (hbA : ¬ A sb) (hR : 10 ≤ R.frames ∧ 300 ≤ R.locals) {hd ha ho : Nat} {b : Nat → Nat} {i : Nat} (hi : i + 7 ≤ L) (hL : L < 2 ^ 31) (hcs : cells + 8 ≤ R.cells ∧ slots + 321 ≤ R.slots) (z : kZ) (σ : KS) (u : Int32 × Int32 × Int32) (hrd : rd z.1 σ z.2.2.2) (hgz : kz_g z) (hP : va_P D vwCl (kz_w G hd ha ho z ++ mcells G b (scr σ u)) H) (hD : va_D A (kz_w G hd ha ho z ++ mcells G b (scr σ u))) (hS : va_S A s.heap H locs) (hl : lv_has ls 7 [(4, .int (nI i)), (0, .ref sb), (1, .ref hd), (2, .ref (b 0)), (3, .ref ho)])
    (kk : ∀ (z : kZ) (σ : KS) (u : Int32 × Int32 × Int32) (ls : Array Slot) (H : Heap) (locs : List Loc), rd z.1 σ z.2.2.2 → kz_g z → va_P D vwCl (kz_w G hd ha ho z ++ mcells G b (scr σ u)) H → va_D A (kz_w G hd ha ho z ++ mcells G b (scr σ u)) → va_S A s.heap H locs → lv_has ls 7 [(4, .int (nI i)), (0, .ref sb), (1, .ref hd), (2, .ref (b 0)), (3, .ref ho)] → W p l e R s m args below meth c H locs (cells + 8) (slots + 321) Q (F0 m 1177 ls [])) :
    W p l e R s m args below meth c H locs cells slots Q (F0 m 923 ls []) := by
  refine lv_aload_n hx hb dL_law_923 rfl (lv_at hl 2 rfl) ?_
  refine lv_aload_n hx hb dL_law_924 rfl (lv_at hl 1 rfl) ?_
  refine lv_iload hx hb dL_law_925 (lv_at hl 0 rfl) ?_
  refine lv_iconst (v := 1) hx hb dL_law_927 (by decide) ?_
  refine lv_iadd hx hb dL_law_928 ?_
  refine ks_ld hx hb hX hbl hbA hS 1 (by omega) hL rfl dL_law_929 ?_
  refine lv_aload_n hx hb dL_law_930 rfl (lv_at hl 4 rfl) ?_
  obtain ⟨mc, ms, hmc, hms, hM⟩ := km_bills l hlt D G hd ha ho z σ hrd hgz (xs (i + 1))
  refine kg_reti (wc := kz_w G hd ha ho z) (wr := mcells G b (scr σ u)) (vx_runSW (As := [.ref hd, .int (xs (i + 1)), .ref ho]) (rest := []) ⟨hx, hb, hml, hown, hg⟩ (hM _) (kl_cSW (n := 3) hg gw_452 gw_0 gw_450 gw_451 (by decide +kernel) (by decide +kernel) ⟨Nat.le_trans (Nat.le_of_ble_eq_true rfl) hR.1, Nat.le_trans (Nat.le_of_ble_eq_true rfl) hR.2⟩ rfl rfl) (kl_preS hK (kw_Pl hP) (kw_Dl hD) hE hN hS (kw_free hD hS hA)) rfl rfl hl.1 rfl (lv_room (Nat.le_of_ble_eq_true rfl)) dL_law_931 ⟨(by omega), (by omega)⟩) hP hD hS hA (fun k z2 H locs hpo hP hD hS => ?_)
  refine W.widen (k := cells + 8) (n := slots + 321) (by omega) (by omega) ?_
  refine lv_istore hx hb dL_law_934 hl (by decide) rfl (fun ls hl => ?_)
  have hl : lv_has ls 7 [(5, .int k), (4, .int (nI i)), (0, .ref sb), (1, .ref hd), (2, .ref (b 0)), (3, .ref ho)] := hl
  refine lv_aload_n hx hb dL_law_936 rfl (lv_at hl 4 rfl) ?_
  refine lv_aload_n hx hb dL_law_937 rfl (lv_at hl 2 rfl) ?_
  refine lv_iload hx hb dL_law_938 (lv_at hl 1 rfl) ?_
  refine lv_iconst (v := 1) hx hb dL_law_940 (by decide) ?_
  refine lv_iadd hx hb dL_law_941 ?_
  refine ks_ld hx hb hX hbl hbA hS 1 (by omega) hL rfl dL_law_942 ?_
  have hq : (mcells G b (scr σ u) ++ kz_w G hd ha ho z2).Perm (kz_w G hd ha ho z2 ++ mcells G b (scr σ u)) := List.perm_append_comm
  refine kg_reti (wc := mcells G b (scr σ u)) (wr := kz_w G hd ha ho z2) (va_runV (C := RM) (As := [.int (xs (i + 1))]) (rest := []) ⟨hx, hb, hml, hown, hg⟩ (c_M_bills l D G b σ u (xs (i + 1)) _ _ hrd.2.2.1 hrd.2.2.2.1) ⟨kw_cB (n := 1) hg gw_726 gw_2 gw_723 (by decide +kernel) (by decide +kernel) ⟨Nat.le_trans (Nat.le_of_ble_eq_true rfl) hR.1, Nat.le_trans (Nat.le_of_ble_eq_true rfl) hR.2⟩ rfl rfl, hg _ gw_724, hg _ gw_725⟩ (kw_preV (q0 := 0) hK (kw_Pl (kw_Pp hP hq)) (kw_Dl (kw_Dp hD hq)) rfl rfl) rfl rfl hl.1 rfl (lv_room (Nat.le_of_ble_eq_true rfl)) dL_law_943 ⟨(by show (cells + 8) + 0 ≤ R.cells; omega), (by show (slots + 321) + 0 ≤ R.slots; omega)⟩) (kw_Pp hP hq) (kw_Dp hD hq) hS hA (fun r u2 H locs hr2 hP hD hS => ?_)
  have hP := kw_Pp hP (List.perm_append_comm : (kz_w G hd ha ho z2 ++ mcells G b (scr (kM_bills σ (xs (i + 1))).2 u2)).Perm (mcells G b (scr (kM_bills σ (xs (i + 1))).2 u2) ++ kz_w G hd ha ho z2))
  have hD := kw_Dp hD (List.perm_append_comm : (kz_w G hd ha ho z2 ++ mcells G b (scr (kM_bills σ (xs (i + 1))).2 u2)).Perm (mcells G b (scr (kM_bills σ (xs (i + 1))).2 u2) ++ kz_w G hd ha ho z2))
  refine lv_istore hx hb dL_law_946 hl (by decide) rfl (fun ls hl => ?_)
  have hl : lv_has ls 7 [(6, .int r), (5, .int k), (4, .int (nI i)), (0, .ref sb), (1, .ref hd), (2, .ref (b 0)), (3, .ref ho)] := hl
  refine lv_aload_n hx hb dL_law_948 rfl (lv_at hl 5 rfl) ?_
  have hq : (mcells G b (scr (kM_bills σ (xs (i + 1))).2 u2) ++ kz_w G hd ha ho z2).Perm (kz_w G hd ha ho z2 ++ mcells G b (scr (kM_bills σ (xs (i + 1))).2 u2)) := List.perm_append_comm
  refine kg_reti (wc := mcells G b (scr (kM_bills σ (xs (i + 1))).2 u2)) (wr := kz_w G hd ha ho z2) (va_runV (C := RM) (As := []) (rest := []) ⟨hx, hb, hml, hown, hg⟩ (c_M_thrown l D G b (kM_bills σ (xs (i + 1))).2 u2 _) ⟨kw_cB (n := 0) hg gw_583 gw_2 gw_580 (by decide +kernel) (by decide +kernel) ⟨Nat.le_trans (Nat.le_of_ble_eq_true rfl) hR.1, Nat.le_trans (Nat.le_of_ble_eq_true rfl) hR.2⟩ rfl rfl, hg _ gw_581, hg _ gw_582⟩ (kw_preV (q0 := 0) hK (kw_Pl (kw_Pp hP hq)) (kw_Dl (kw_Dp hD hq)) rfl rfl) rfl rfl hl.1 rfl (lv_room (Nat.le_of_ble_eq_true rfl)) dL_law_949 ⟨(by show (cells + 8) + 0 ≤ R.cells; omega), (by show (slots + 321) + 0 ≤ R.slots; omega)⟩) (kw_Pp hP hq) (kw_Dp hD hq) hS hA (fun w u3 H locs hw hP hD hS => ?_)
  have hP := kw_Pp hP (List.perm_append_comm : (kz_w G hd ha ho z2 ++ mcells G b (scr (kM_bills σ (xs (i + 1))).2 u3)).Perm (mcells G b (scr (kM_bills σ (xs (i + 1))).2 u3) ++ kz_w G hd ha ho z2))
  have hD := kw_Dp hD (List.perm_append_comm : (kz_w G hd ha ho z2 ++ mcells G b (scr (kM_bills σ (xs (i + 1))).2 u3)).Perm (mcells G b (scr (kM_bills σ (xs (i + 1))).2 u3) ++ kz_w G hd ha ho z2))
  refine lv_iload hx hb dL_law_952 (lv_at hl 1 rfl) ?_
  have ek : w = k := hw.trans hpo.1
  refine lv_icmp_eq (tgt := 959) hx hb dL_law_954 (by decide) (fun _ => ?_) (fun h => absurd ek h)
  refine lv_iload hx hb dL_law_959 (lv_at hl 1 rfl) ?_
  refine lv_if_ne (tgt := 976) hx hb dL_law_961 (by decide) (fun _ => ?_) (fun h0 => ?_)
  · refine lv_goto (tgt := 1177) hx hb dL_law_976 (by decide) ?_
    exact kk z2 (kM_bills σ (xs (i + 1))).2 u3 _ _ _ hpo.2.2.1 hpo.2.2.2 hP hD hS (lv_sub hl [2, 3, 4, 5, 6] rfl)
  · refine lv_aload_n hx hb dL_law_964 rfl (lv_at hl 6 rfl) ?_
    refine lv_iconst (v := 0) hx hb dL_law_965 (by decide) ?_
    refine va_lald hx hb hK hP 0 2 rfl rfl (vp_in_nI (n := 0) (by decide) (by decide)) dL_law_966 ?_
    refine lv_iload hx hb dL_law_967 (lv_at hl 0 rfl) ?_
    refine lv_i2l hx hb dL_law_969 rfl ?_
    refine W.lcmp hx hb dL_law_970 ?_
    have eo : z2.2.1 0 = r.toInt64 := (hpo.2.1 h0).trans (congrArg Int32.toInt64 hr2).symm
    refine lv_if_eq (tgt := 976) hx hb dL_law_971 (by decide) (fun _ => ?_) (fun h => absurd ((lg_cmp_eq _ _).2 eo) h)
    refine lv_goto (tgt := 1177) hx hb dL_law_976 (by decide) ?_
    exact kk z2 (kM_bills σ (xs (i + 1))).2 u3 _ _ _ hpo.2.2.1 hpo.2.2.2 hP hD hS (lv_sub hl [2, 3, 4, 5, 6] rfl)
set_option maxRecDepth 100000 in
set_option maxHeartbeats 4000000 in
theorem lw_bill {p : Program} {l : Launch} {e : Env} {R : Room} {s : State} {m : MethodId} {args : Array Value} {below : List Frame} {meth : Method} {c : Code} {H : Heap} {locs : List Loc} {cells slots : Nat} {Q : State → Prop} {ls : Array Slot} (hlt : l.stackTraces = false) (hx : p.tables.exec = Jvm.exec) (hb : c.code = cL_law) (hml : c.maxLocals = 7) (hown : s.vm.findClass RL = some m.cls) (hg : ∀ w ∈ GW, w.before args s = true) {D : va_G} {G : Nat → ClassId} (hK : va_K D vwCl (gt G) s) {A : Nat → Prop} (hA : ∀ q, s.heap.size ≤ q → A q) (hE : kt_E A s) (hN : kl_N s) {sb L : Nat} {xs : Nat → Int32} (hX : va_X sb L xs s s.heap) (hbl : sb < s.heap.size) (hbA : ¬ A sb) (hR : 10 ≤ R.frames ∧ 300 ≤ R.locals) {hd ha ho : Nat} {b : Nat → Nat} {i : Nat} (hi : i + 7 ≤ L) (hL : L < 2 ^ 31) (hcs : cells + 8 ≤ R.cells ∧ slots + 321 ≤ R.slots) (z : kZ) (σ : KS) (u : Int32 × Int32 × Int32) (hrd : rd z.1 σ z.2.2.2) (hgz : kz_g z) (hP : va_P D vwCl (kz_w G hd ha ho z ++ mcells G b (scr σ u)) H) (hD : va_D A (kz_w G hd ha ho z ++ mcells G b (scr σ u))) (hS : va_S A s.heap H locs) (hl : lv_has ls 7 [(4, .int (nI i)), (0, .ref sb), (1, .ref hd), (2, .ref (b 0)), (3, .ref ho)])
    (kk : ∀ (z : kZ) (σ : KS) (u : Int32 × Int32 × Int32) (ls : Array Slot) (H : Heap) (locs : List Loc), rd z.1 σ z.2.2.2 → kz_g z → va_P D vwCl (kz_w G hd ha ho z ++ mcells G b (scr σ u)) H → va_D A (kz_w G hd ha ho z ++ mcells G b (scr σ u)) → va_S A s.heap H locs → lv_has ls 7 [(4, .int (nI i)), (0, .ref sb), (1, .ref hd), (2, .ref (b 0)), (3, .ref ho)] → W p l e R s m args below meth c H locs (cells + 8) (slots + 321) Q (F0 m 1177 ls [])) :
    W p l e R s m args below meth c H locs cells slots Q (F0 m 979 ls []) := by
  refine lv_aload_n hx hb dL_law_979 rfl (lv_at hl 2 rfl) ?_
  refine lv_aload_n hx hb dL_law_980 rfl (lv_at hl 1 rfl) ?_
  refine lv_iload hx hb dL_law_981 (lv_at hl 0 rfl) ?_
  refine lv_iconst (v := 1) hx hb dL_law_983 (by decide) ?_
  refine lv_iadd hx hb dL_law_984 ?_
  refine ks_ld hx hb hX hbl hbA hS 1 (by omega) hL rfl dL_law_985 ?_
  refine lv_aload_n hx hb dL_law_986 rfl (lv_at hl 1 rfl) ?_
  refine lv_iload hx hb dL_law_987 (lv_at hl 0 rfl) ?_
  refine lv_iconst (v := 2) hx hb dL_law_989 (by decide) ?_
  refine lv_iadd hx hb dL_law_990 ?_
  refine ks_ld hx hb hX hbl hbA hS 2 (by omega) hL rfl dL_law_991 ?_
  refine lv_aload_n hx hb dL_law_992 rfl (lv_at hl 1 rfl) ?_
  refine lv_iload hx hb dL_law_993 (lv_at hl 0 rfl) ?_
  refine lv_iconst (v := 3) hx hb dL_law_995 (by decide) ?_
  refine lv_iadd hx hb dL_law_996 ?_
  refine ks_ld hx hb hX hbl hbA hS 3 (by omega) hL rfl dL_law_997 ?_
  refine lv_aload_n hx hb dL_law_998 rfl (lv_at hl 4 rfl) ?_
  obtain ⟨mc, ms, hmc, hms, hM⟩ := km_bill l hlt D G hd ha ho z σ hrd hgz (xs (i + 1)) (xs (i + 2)) (xs (i + 3))
  refine kg_reti (wc := kz_w G hd ha ho z) (wr := mcells G b (scr σ u)) (vx_runSW (As := [.ref hd, .int (xs (i + 1)), .int (xs (i + 2)), .int (xs (i + 3)), .ref ho]) (rest := []) ⟨hx, hb, hml, hown, hg⟩ (hM _) (kl_cSW (n := 5) hg gw_459 gw_0 gw_457 gw_458 (by decide +kernel) (by decide +kernel) ⟨Nat.le_trans (Nat.le_of_ble_eq_true rfl) hR.1, Nat.le_trans (Nat.le_of_ble_eq_true rfl) hR.2⟩ rfl rfl) (kl_preS hK (kw_Pl hP) (kw_Dl hD) hE hN hS (kw_free hD hS hA)) rfl rfl hl.1 rfl (lv_room (Nat.le_of_ble_eq_true rfl)) dL_law_999 ⟨(by omega), (by omega)⟩) hP hD hS hA (fun k z2 H locs hpo hP hD hS => ?_)
  refine W.widen (k := cells + 8) (n := slots + 321) (by omega) (by omega) ?_
  refine lv_istore hx hb dL_law_1002 hl (by decide) rfl (fun ls hl => ?_)
  have hl : lv_has ls 7 [(5, .int k), (4, .int (nI i)), (0, .ref sb), (1, .ref hd), (2, .ref (b 0)), (3, .ref ho)] := hl
  refine lv_aload_n hx hb dL_law_1004 rfl (lv_at hl 4 rfl) ?_
  refine lv_aload_n hx hb dL_law_1005 rfl (lv_at hl 2 rfl) ?_
  refine lv_iload hx hb dL_law_1006 (lv_at hl 1 rfl) ?_
  refine lv_iconst (v := 1) hx hb dL_law_1008 (by decide) ?_
  refine lv_iadd hx hb dL_law_1009 ?_
  refine ks_ld hx hb hX hbl hbA hS 1 (by omega) hL rfl dL_law_1010 ?_
  refine lv_aload_n hx hb dL_law_1011 rfl (lv_at hl 2 rfl) ?_
  refine lv_iload hx hb dL_law_1012 (lv_at hl 1 rfl) ?_
  refine lv_iconst (v := 2) hx hb dL_law_1014 (by decide) ?_
  refine lv_iadd hx hb dL_law_1015 ?_
  refine ks_ld hx hb hX hbl hbA hS 2 (by omega) hL rfl dL_law_1016 ?_
  refine lv_aload_n hx hb dL_law_1017 rfl (lv_at hl 2 rfl) ?_
  refine lv_iload hx hb dL_law_1018 (lv_at hl 1 rfl) ?_
  refine lv_iconst (v := 3) hx hb dL_law_1020 (by decide) ?_
  refine lv_iadd hx hb dL_law_1021 ?_
  refine ks_ld hx hb hX hbl hbA hS 3 (by omega) hL rfl dL_law_1022 ?_
  have hq : (mcells G b (scr σ u) ++ kz_w G hd ha ho z2).Perm (kz_w G hd ha ho z2 ++ mcells G b (scr σ u)) := List.perm_append_comm
  refine kg_reti (wc := mcells G b (scr σ u)) (wr := kz_w G hd ha ho z2) (va_runV (C := RM) (As := [.int (xs (i + 1)), .int (xs (i + 2)), .int (xs (i + 3))]) (rest := []) ⟨hx, hb, hml, hown, hg⟩ (c_M_bill l D G b σ u (xs (i + 1)) (xs (i + 2)) (xs (i + 3)) _ _ hrd.2.2.1 hrd.2.2.2.1 (rd_bill_hbl hrd)) ⟨kw_cB (n := 3) hg gw_730 gw_2 gw_727 (by decide +kernel) (by decide +kernel) ⟨Nat.le_trans (Nat.le_of_ble_eq_true rfl) hR.1, Nat.le_trans (Nat.le_of_ble_eq_true rfl) hR.2⟩ rfl rfl, hg _ gw_728, hg _ gw_729⟩ (kw_preV (q0 := 0) hK (kw_Pl (kw_Pp hP hq)) (kw_Dl (kw_Dp hD hq)) rfl rfl) rfl rfl hl.1 rfl (lv_room (Nat.le_of_ble_eq_true rfl)) dL_law_1023 ⟨(by show (cells + 8) + 0 ≤ R.cells; omega), (by show (slots + 321) + 0 ≤ R.slots; omega)⟩) (kw_Pp hP hq) (kw_Dp hD hq) hS hA (fun r u2 H locs hr2 hP hD hS => ?_)
  have hP := kw_Pp hP (List.perm_append_comm : (kz_w G hd ha ho z2 ++ mcells G b (scr (kM_bill σ (xs (i + 1)) (xs (i + 2)) (xs (i + 3))).2 u2)).Perm (mcells G b (scr (kM_bill σ (xs (i + 1)) (xs (i + 2)) (xs (i + 3))).2 u2) ++ kz_w G hd ha ho z2))
  have hD := kw_Dp hD (List.perm_append_comm : (kz_w G hd ha ho z2 ++ mcells G b (scr (kM_bill σ (xs (i + 1)) (xs (i + 2)) (xs (i + 3))).2 u2)).Perm (mcells G b (scr (kM_bill σ (xs (i + 1)) (xs (i + 2)) (xs (i + 3))).2 u2) ++ kz_w G hd ha ho z2))
  refine lv_istore hx hb dL_law_1026 hl (by decide) rfl (fun ls hl => ?_)
  have hl : lv_has ls 7 [(6, .int r), (5, .int k), (4, .int (nI i)), (0, .ref sb), (1, .ref hd), (2, .ref (b 0)), (3, .ref ho)] := hl
  refine lv_aload_n hx hb dL_law_1028 rfl (lv_at hl 5 rfl) ?_
  have hq : (mcells G b (scr (kM_bill σ (xs (i + 1)) (xs (i + 2)) (xs (i + 3))).2 u2) ++ kz_w G hd ha ho z2).Perm (kz_w G hd ha ho z2 ++ mcells G b (scr (kM_bill σ (xs (i + 1)) (xs (i + 2)) (xs (i + 3))).2 u2)) := List.perm_append_comm
  refine kg_reti (wc := mcells G b (scr (kM_bill σ (xs (i + 1)) (xs (i + 2)) (xs (i + 3))).2 u2)) (wr := kz_w G hd ha ho z2) (va_runV (C := RM) (As := []) (rest := []) ⟨hx, hb, hml, hown, hg⟩ (c_M_thrown l D G b (kM_bill σ (xs (i + 1)) (xs (i + 2)) (xs (i + 3))).2 u2 _) ⟨kw_cB (n := 0) hg gw_583 gw_2 gw_580 (by decide +kernel) (by decide +kernel) ⟨Nat.le_trans (Nat.le_of_ble_eq_true rfl) hR.1, Nat.le_trans (Nat.le_of_ble_eq_true rfl) hR.2⟩ rfl rfl, hg _ gw_581, hg _ gw_582⟩ (kw_preV (q0 := 0) hK (kw_Pl (kw_Pp hP hq)) (kw_Dl (kw_Dp hD hq)) rfl rfl) rfl rfl hl.1 rfl (lv_room (Nat.le_of_ble_eq_true rfl)) dL_law_1029 ⟨(by show (cells + 8) + 0 ≤ R.cells; omega), (by show (slots + 321) + 0 ≤ R.slots; omega)⟩) (kw_Pp hP hq) (kw_Dp hD hq) hS hA (fun w u3 H locs hw hP hD hS => ?_)
  have hP := kw_Pp hP (List.perm_append_comm : (kz_w G hd ha ho z2 ++ mcells G b (scr (kM_bill σ (xs (i + 1)) (xs (i + 2)) (xs (i + 3))).2 u3)).Perm (mcells G b (scr (kM_bill σ (xs (i + 1)) (xs (i + 2)) (xs (i + 3))).2 u3) ++ kz_w G hd ha ho z2))
  have hD := kw_Dp hD (List.perm_append_comm : (kz_w G hd ha ho z2 ++ mcells G b (scr (kM_bill σ (xs (i + 1)) (xs (i + 2)) (xs (i + 3))).2 u3)).Perm (mcells G b (scr (kM_bill σ (xs (i + 1)) (xs (i + 2)) (xs (i + 3))).2 u3) ++ kz_w G hd ha ho z2))
  refine lv_iload hx hb dL_law_1032 (lv_at hl 1 rfl) ?_
  have ek : w = k := hw.trans hpo.1
  refine lv_icmp_eq (tgt := 1039) hx hb dL_law_1034 (by decide) (fun _ => ?_) (fun h => absurd ek h)
  refine lv_iload hx hb dL_law_1039 (lv_at hl 1 rfl) ?_
  refine lv_if_ne (tgt := 1056) hx hb dL_law_1041 (by decide) (fun _ => ?_) (fun h0 => ?_)
  · refine lv_goto (tgt := 1177) hx hb dL_law_1056 (by decide) ?_
    exact kk z2 (kM_bill σ (xs (i + 1)) (xs (i + 2)) (xs (i + 3))).2 u3 _ _ _ hpo.2.2.1 hpo.2.2.2 hP hD hS (lv_sub hl [2, 3, 4, 5, 6] rfl)
  · refine lv_aload_n hx hb dL_law_1044 rfl (lv_at hl 6 rfl) ?_
    refine lv_iconst (v := 0) hx hb dL_law_1045 (by decide) ?_
    refine va_lald hx hb hK hP 0 2 rfl rfl (vp_in_nI (n := 0) (by decide) (by decide)) dL_law_1046 ?_
    refine lv_iload hx hb dL_law_1047 (lv_at hl 0 rfl) ?_
    refine lv_i2l hx hb dL_law_1049 rfl ?_
    refine W.lcmp hx hb dL_law_1050 ?_
    have eo : z2.2.1 0 = r.toInt64 := (hpo.2.1 h0).trans (congrArg Int32.toInt64 hr2).symm
    refine lv_if_eq (tgt := 1056) hx hb dL_law_1051 (by decide) (fun _ => ?_) (fun h => absurd ((lg_cmp_eq _ _).2 eo) h)
    refine lv_goto (tgt := 1177) hx hb dL_law_1056 (by decide) ?_
    exact kk z2 (kM_bill σ (xs (i + 1)) (xs (i + 2)) (xs (i + 3))).2 u3 _ _ _ hpo.2.2.1 hpo.2.2.2 hP hD hS (lv_sub hl [2, 3, 4, 5, 6] rfl)
set_option maxRecDepth 100000 in
set_option maxHeartbeats 4000000 in
theorem lw_interest {p : Program} {l : Launch} {e : Env} {R : Room} {s : State} {m : MethodId} {args : Array Value} {below : List Frame} {meth : Method} {c : Code} {H : Heap} {locs : List Loc} {cells slots : Nat} {Q : State → Prop} {ls : Array Slot} (hlt : l.stackTraces = false) (hx : p.tables.exec = Jvm.exec) (hb : c.code = cL_law) (hml : c.maxLocals = 7) (hown : s.vm.findClass RL = some m.cls) (hg : ∀ w ∈ GW, w.before args s = true) {D : va_G} {G : Nat → ClassId} (hK : va_K D vwCl (gt G) s) {A : Nat → Prop} (hA : ∀ q, s.heap.size ≤ q → A q) (hE : kt_E A s) (hN : kl_N s) {sb L : Nat} {xs : Nat → Int32} (hX : va_X sb L xs s s.heap) (hbl : sb < s.heap.size) (hbA : ¬ A sb) (hR : 10 ≤ R.frames ∧ 300 ≤ R.locals) {hd ha ho : Nat} {b : Nat → Nat} {i : Nat} (hi : i + 7 ≤ L) (hL : L < 2 ^ 31) (hcs : cells + 8 ≤ R.cells ∧ slots + 321 ≤ R.slots) (z : kZ) (σ : KS) (u : Int32 × Int32 × Int32) (hrd : rd z.1 σ z.2.2.2) (hgz : kz_g z) (hP : va_P D vwCl (kz_w G hd ha ho z ++ mcells G b (scr σ u)) H) (hD : va_D A (kz_w G hd ha ho z ++ mcells G b (scr σ u))) (hS : va_S A s.heap H locs) (hl : lv_has ls 7 [(4, .int (nI i)), (0, .ref sb), (1, .ref hd), (2, .ref (b 0)), (3, .ref ho)])
    (kk : ∀ (z : kZ) (σ : KS) (u : Int32 × Int32 × Int32) (ls : Array Slot) (H : Heap) (locs : List Loc), rd z.1 σ z.2.2.2 → kz_g z → va_P D vwCl (kz_w G hd ha ho z ++ mcells G b (scr σ u)) H → va_D A (kz_w G hd ha ho z ++ mcells G b (scr σ u)) → va_S A s.heap H locs → lv_has ls 7 [(4, .int (nI i)), (0, .ref sb), (1, .ref hd), (2, .ref (b 0)), (3, .ref ho)] → W p l e R s m args below meth c H locs (cells + 8) (slots + 321) Q (F0 m 1177 ls [])) :
    W p l e R s m args below meth c H locs cells slots Q (F0 m 1059 ls []) := by
  refine lv_aload_n hx hb dL_law_1059 rfl (lv_at hl 2 rfl) ?_
  refine lv_aload_n hx hb dL_law_1060 rfl (lv_at hl 1 rfl) ?_
  refine lv_iload hx hb dL_law_1061 (lv_at hl 0 rfl) ?_
  refine lv_iconst (v := 1) hx hb dL_law_1063 (by decide) ?_
  refine lv_iadd hx hb dL_law_1064 ?_
  refine ks_ld hx hb hX hbl hbA hS 1 (by omega) hL rfl dL_law_1065 ?_
  refine lv_aload_n hx hb dL_law_1066 rfl (lv_at hl 1 rfl) ?_
  refine lv_iload hx hb dL_law_1067 (lv_at hl 0 rfl) ?_
  refine lv_iconst (v := 2) hx hb dL_law_1069 (by decide) ?_
  refine lv_iadd hx hb dL_law_1070 ?_
  refine ks_ld hx hb hX hbl hbA hS 2 (by omega) hL rfl dL_law_1071 ?_
  refine lv_aload_n hx hb dL_law_1072 rfl (lv_at hl 1 rfl) ?_
  refine lv_iload hx hb dL_law_1073 (lv_at hl 0 rfl) ?_
  refine lv_iconst (v := 3) hx hb dL_law_1075 (by decide) ?_
  refine lv_iadd hx hb dL_law_1076 ?_
  refine ks_ld hx hb hX hbl hbA hS 3 (by omega) hL rfl dL_law_1077 ?_
  refine lv_aload_n hx hb dL_law_1078 rfl (lv_at hl 1 rfl) ?_
  refine lv_iload hx hb dL_law_1079 (lv_at hl 0 rfl) ?_
  refine lv_iconst (v := 4) hx hb dL_law_1081 (by decide) ?_
  refine lv_iadd hx hb dL_law_1082 ?_
  refine ks_ld hx hb hX hbl hbA hS 4 (by omega) hL rfl dL_law_1083 ?_
  refine lv_aload_n hx hb dL_law_1084 rfl (lv_at hl 1 rfl) ?_
  refine lv_iload hx hb dL_law_1085 (lv_at hl 0 rfl) ?_
  refine lv_iconst (v := 5) hx hb dL_law_1087 (by decide) ?_
  refine lv_iadd hx hb dL_law_1088 ?_
  refine ks_ld hx hb hX hbl hbA hS 5 (by omega) hL rfl dL_law_1089 ?_
  refine lv_aload_n hx hb dL_law_1090 rfl (lv_at hl 1 rfl) ?_
  refine lv_iload hx hb dL_law_1091 (lv_at hl 0 rfl) ?_
  refine lv_bipush (v := 6) hx hb dL_law_1093 (by decide) ?_
  refine lv_iadd hx hb dL_law_1095 ?_
  refine ks_ld hx hb hX hbl hbA hS 6 (by omega) hL rfl dL_law_1096 ?_
  refine lv_aload_n hx hb dL_law_1097 rfl (lv_at hl 4 rfl) ?_
  obtain ⟨mc, ms, hmc, hms, hM⟩ := km_interest l hlt D G hd ha ho z σ hrd hgz (xs (i + 1)) (xs (i + 2)) (xs (i + 3)) (xs (i + 4)) (xs (i + 5)) (xs (i + 6))
  refine kg_reti (wc := kz_w G hd ha ho z) (wr := mcells G b (scr σ u)) (vx_runSW (As := [.ref hd, .int (xs (i + 1)), .int (xs (i + 2)), .int (xs (i + 3)), .int (xs (i + 4)), .int (xs (i + 5)), .int (xs (i + 6)), .ref ho]) (rest := []) ⟨hx, hb, hml, hown, hg⟩ (hM _) (kl_cSW (n := 8) hg gw_481 gw_0 gw_479 gw_480 (by decide +kernel) (by decide +kernel) ⟨Nat.le_trans (Nat.le_of_ble_eq_true rfl) hR.1, Nat.le_trans (Nat.le_of_ble_eq_true rfl) hR.2⟩ rfl rfl) (kl_preS hK (kw_Pl hP) (kw_Dl hD) hE hN hS (kw_free hD hS hA)) rfl rfl hl.1 rfl (lv_room (Nat.le_of_ble_eq_true rfl)) dL_law_1098 ⟨(by omega), (by omega)⟩) hP hD hS hA (fun k z2 H locs hpo hP hD hS => ?_)
  refine W.widen (k := cells + 8) (n := slots + 321) (by omega) (by omega) ?_
  refine lv_istore hx hb dL_law_1101 hl (by decide) rfl (fun ls hl => ?_)
  have hl : lv_has ls 7 [(5, .int k), (4, .int (nI i)), (0, .ref sb), (1, .ref hd), (2, .ref (b 0)), (3, .ref ho)] := hl
  refine lv_aload_n hx hb dL_law_1103 rfl (lv_at hl 4 rfl) ?_
  refine lv_aload_n hx hb dL_law_1104 rfl (lv_at hl 2 rfl) ?_
  refine lv_iload hx hb dL_law_1105 (lv_at hl 1 rfl) ?_
  refine lv_iconst (v := 1) hx hb dL_law_1107 (by decide) ?_
  refine lv_iadd hx hb dL_law_1108 ?_
  refine ks_ld hx hb hX hbl hbA hS 1 (by omega) hL rfl dL_law_1109 ?_
  refine lv_aload_n hx hb dL_law_1110 rfl (lv_at hl 2 rfl) ?_
  refine lv_iload hx hb dL_law_1111 (lv_at hl 1 rfl) ?_
  refine lv_iconst (v := 2) hx hb dL_law_1113 (by decide) ?_
  refine lv_iadd hx hb dL_law_1114 ?_
  refine ks_ld hx hb hX hbl hbA hS 2 (by omega) hL rfl dL_law_1115 ?_
  refine lv_aload_n hx hb dL_law_1116 rfl (lv_at hl 2 rfl) ?_
  refine lv_iload hx hb dL_law_1117 (lv_at hl 1 rfl) ?_
  refine lv_iconst (v := 3) hx hb dL_law_1119 (by decide) ?_
  refine lv_iadd hx hb dL_law_1120 ?_
  refine ks_ld hx hb hX hbl hbA hS 3 (by omega) hL rfl dL_law_1121 ?_
  refine lv_aload_n hx hb dL_law_1122 rfl (lv_at hl 2 rfl) ?_
  refine lv_iload hx hb dL_law_1123 (lv_at hl 1 rfl) ?_
  refine lv_iconst (v := 4) hx hb dL_law_1125 (by decide) ?_
  refine lv_iadd hx hb dL_law_1126 ?_
  refine ks_ld hx hb hX hbl hbA hS 4 (by omega) hL rfl dL_law_1127 ?_
  refine lv_aload_n hx hb dL_law_1128 rfl (lv_at hl 2 rfl) ?_
  refine lv_iload hx hb dL_law_1129 (lv_at hl 1 rfl) ?_
  refine lv_iconst (v := 5) hx hb dL_law_1131 (by decide) ?_
  refine lv_iadd hx hb dL_law_1132 ?_
  refine ks_ld hx hb hX hbl hbA hS 5 (by omega) hL rfl dL_law_1133 ?_
  refine lv_aload_n hx hb dL_law_1134 rfl (lv_at hl 2 rfl) ?_
  refine lv_iload hx hb dL_law_1135 (lv_at hl 1 rfl) ?_
  refine lv_bipush (v := 6) hx hb dL_law_1137 (by decide) ?_
  refine lv_iadd hx hb dL_law_1139 ?_
  refine ks_ld hx hb hX hbl hbA hS 6 (by omega) hL rfl dL_law_1140 ?_
  have hq : (mcells G b (scr σ u) ++ kz_w G hd ha ho z2).Perm (kz_w G hd ha ho z2 ++ mcells G b (scr σ u)) := List.perm_append_comm
  refine kg_reti (wc := mcells G b (scr σ u)) (wr := kz_w G hd ha ho z2) (va_runV (C := RM) (As := [.int (xs (i + 1)), .int (xs (i + 2)), .int (xs (i + 3)), .int (xs (i + 4)), .int (xs (i + 5)), .int (xs (i + 6))]) (rest := []) ⟨hx, hb, hml, hown, hg⟩ (c_M_interest l D G b σ u (xs (i + 1)) (xs (i + 2)) (xs (i + 3)) (xs (i + 4)) (xs (i + 5)) (xs (i + 6)) _) ⟨kw_cB (n := 6) hg gw_600 gw_2 gw_597 (by decide +kernel) (by decide +kernel) ⟨Nat.le_trans (Nat.le_of_ble_eq_true rfl) hR.1, Nat.le_trans (Nat.le_of_ble_eq_true rfl) hR.2⟩ rfl rfl, hg _ gw_598, hg _ gw_599⟩ (kw_preV (q0 := 0) hK (kw_Pl (kw_Pp hP hq)) (kw_Dl (kw_Dp hD hq)) rfl rfl) rfl rfl hl.1 rfl (lv_room (Nat.le_of_ble_eq_true rfl)) dL_law_1141 ⟨(by show (cells + 8) + 0 ≤ R.cells; omega), (by show (slots + 321) + 0 ≤ R.slots; omega)⟩) (kw_Pp hP hq) (kw_Dp hD hq) hS hA (fun r u2 H locs hr2 hP hD hS => ?_)
  have hP := kw_Pp hP (List.perm_append_comm : (kz_w G hd ha ho z2 ++ mcells G b (scr (kM_interest σ (xs (i + 1)) (xs (i + 2)) (xs (i + 3)) (xs (i + 4)) (xs (i + 5)) (xs (i + 6))).2 u2)).Perm (mcells G b (scr (kM_interest σ (xs (i + 1)) (xs (i + 2)) (xs (i + 3)) (xs (i + 4)) (xs (i + 5)) (xs (i + 6))).2 u2) ++ kz_w G hd ha ho z2))
  have hD := kw_Dp hD (List.perm_append_comm : (kz_w G hd ha ho z2 ++ mcells G b (scr (kM_interest σ (xs (i + 1)) (xs (i + 2)) (xs (i + 3)) (xs (i + 4)) (xs (i + 5)) (xs (i + 6))).2 u2)).Perm (mcells G b (scr (kM_interest σ (xs (i + 1)) (xs (i + 2)) (xs (i + 3)) (xs (i + 4)) (xs (i + 5)) (xs (i + 6))).2 u2) ++ kz_w G hd ha ho z2))
  refine lv_istore hx hb dL_law_1144 hl (by decide) rfl (fun ls hl => ?_)
  have hl : lv_has ls 7 [(6, .int r), (5, .int k), (4, .int (nI i)), (0, .ref sb), (1, .ref hd), (2, .ref (b 0)), (3, .ref ho)] := hl
  refine lv_aload_n hx hb dL_law_1146 rfl (lv_at hl 5 rfl) ?_
  have hq : (mcells G b (scr (kM_interest σ (xs (i + 1)) (xs (i + 2)) (xs (i + 3)) (xs (i + 4)) (xs (i + 5)) (xs (i + 6))).2 u2) ++ kz_w G hd ha ho z2).Perm (kz_w G hd ha ho z2 ++ mcells G b (scr (kM_interest σ (xs (i + 1)) (xs (i + 2)) (xs (i + 3)) (xs (i + 4)) (xs (i + 5)) (xs (i + 6))).2 u2)) := List.perm_append_comm
  refine kg_reti (wc := mcells G b (scr (kM_interest σ (xs (i + 1)) (xs (i + 2)) (xs (i + 3)) (xs (i + 4)) (xs (i + 5)) (xs (i + 6))).2 u2)) (wr := kz_w G hd ha ho z2) (va_runV (C := RM) (As := []) (rest := []) ⟨hx, hb, hml, hown, hg⟩ (c_M_thrown l D G b (kM_interest σ (xs (i + 1)) (xs (i + 2)) (xs (i + 3)) (xs (i + 4)) (xs (i + 5)) (xs (i + 6))).2 u2 _) ⟨kw_cB (n := 0) hg gw_583 gw_2 gw_580 (by decide +kernel) (by decide +kernel) ⟨Nat.le_trans (Nat.le_of_ble_eq_true rfl) hR.1, Nat.le_trans (Nat.le_of_ble_eq_true rfl) hR.2⟩ rfl rfl, hg _ gw_581, hg _ gw_582⟩ (kw_preV (q0 := 0) hK (kw_Pl (kw_Pp hP hq)) (kw_Dl (kw_Dp hD hq)) rfl rfl) rfl rfl hl.1 rfl (lv_room (Nat.le_of_ble_eq_true rfl)) dL_law_1147 ⟨(by show (cells + 8) + 0 ≤ R.cells; omega), (by show (slots + 321) + 0 ≤ R.slots; omega)⟩) (kw_Pp hP hq) (kw_Dp hD hq) hS hA (fun w u3 H locs hw hP hD hS => ?_)
  have hP := kw_Pp hP (List.perm_append_comm : (kz_w G hd ha ho z2 ++ mcells G b (scr (kM_interest σ (xs (i + 1)) (xs (i + 2)) (xs (i + 3)) (xs (i + 4)) (xs (i + 5)) (xs (i + 6))).2 u3)).Perm (mcells G b (scr (kM_interest σ (xs (i + 1)) (xs (i + 2)) (xs (i + 3)) (xs (i + 4)) (xs (i + 5)) (xs (i + 6))).2 u3) ++ kz_w G hd ha ho z2))
  have hD := kw_Dp hD (List.perm_append_comm : (kz_w G hd ha ho z2 ++ mcells G b (scr (kM_interest σ (xs (i + 1)) (xs (i + 2)) (xs (i + 3)) (xs (i + 4)) (xs (i + 5)) (xs (i + 6))).2 u3)).Perm (mcells G b (scr (kM_interest σ (xs (i + 1)) (xs (i + 2)) (xs (i + 3)) (xs (i + 4)) (xs (i + 5)) (xs (i + 6))).2 u3) ++ kz_w G hd ha ho z2))
  refine lv_iload hx hb dL_law_1150 (lv_at hl 1 rfl) ?_
  have ek : w = k := hw.trans hpo.1
  refine lv_icmp_eq (tgt := 1157) hx hb dL_law_1152 (by decide) (fun _ => ?_) (fun h => absurd ek h)
  refine lv_iload hx hb dL_law_1157 (lv_at hl 1 rfl) ?_
  refine lv_if_ne (tgt := 1174) hx hb dL_law_1159 (by decide) (fun _ => ?_) (fun h0 => ?_)
  · refine lv_goto (tgt := 1177) hx hb dL_law_1174 (by decide) ?_
    exact kk z2 (kM_interest σ (xs (i + 1)) (xs (i + 2)) (xs (i + 3)) (xs (i + 4)) (xs (i + 5)) (xs (i + 6))).2 u3 _ _ _ hpo.2.2.1 hpo.2.2.2 hP hD hS (lv_sub hl [2, 3, 4, 5, 6] rfl)
  · refine lv_aload_n hx hb dL_law_1162 rfl (lv_at hl 6 rfl) ?_
    refine lv_iconst (v := 0) hx hb dL_law_1163 (by decide) ?_
    refine va_lald hx hb hK hP 0 2 rfl rfl (vp_in_nI (n := 0) (by decide) (by decide)) dL_law_1164 ?_
    refine lv_iload hx hb dL_law_1165 (lv_at hl 0 rfl) ?_
    refine lv_i2l hx hb dL_law_1167 rfl ?_
    refine W.lcmp hx hb dL_law_1168 ?_
    have eo : z2.2.1 0 = r.toInt64 := (hpo.2.1 h0).trans (congrArg Int32.toInt64 hr2).symm
    refine lv_if_eq (tgt := 1174) hx hb dL_law_1169 (by decide) (fun _ => ?_) (fun h => absurd ((lg_cmp_eq _ _).2 eo) h)
    refine lv_goto (tgt := 1177) hx hb dL_law_1174 (by decide) ?_
    exact kk z2 (kM_interest σ (xs (i + 1)) (xs (i + 2)) (xs (i + 3)) (xs (i + 4)) (xs (i + 5)) (xs (i + 6))).2 u3 _ _ _ hpo.2.2.1 hpo.2.2.2 hP hD hS (lv_sub hl [2, 3, 4, 5, 6] rfl)
