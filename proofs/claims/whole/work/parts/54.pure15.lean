/-! pure: a payment keeps the relation -/
set_option maxRecDepth 4000 in
theorem pp_gin {c w0 w1 w2 w3 p g0 g1 g2 g3 g4 g5 : Nat} (hg : pp_g c w0 w1 w2 w3 p g0 g1 g2 g3 g4 g5) (h2 : w2 ≤ p) : g0 ≤ w0 ∧ g1 ≤ w1 ∧ g2 ≤ w2 ∧ g3 ≤ w3 ∧ g2 + g4 ≤ p ∧ w2 + g4 ≤ p ∧ g0 ≤ c ∧ g1 ≤ c - g0 ∧ g2 ≤ c - g0 - g1 ∧ g3 ≤ c - g0 - g1 - g2 ∧ g4 ≤ c - g0 - g1 - g2 - g3 ∧ g5 = c - g0 - g1 - g2 - g3 - g4 := by
  obtain ⟨e0, e1, e2, e3, e4, e5⟩ := hg
  have a0 : g0 ≤ w0 ∧ g0 ≤ c := by rw [e0]; exact ⟨Nat.min_le_right _ _, Nat.min_le_left _ _⟩
  have a1 : g1 ≤ w1 ∧ g1 ≤ c - g0 := by rw [e1]; exact ⟨Nat.min_le_right _ _, Nat.min_le_left _ _⟩
  have a2 : g2 ≤ w2 ∧ g2 ≤ c - g0 - g1 := by rw [e2]; exact ⟨Nat.min_le_right _ _, Nat.min_le_left _ _⟩
  have a3 : g3 ≤ w3 ∧ g3 ≤ c - g0 - g1 - g2 := by rw [e3]; exact ⟨Nat.min_le_right _ _, Nat.min_le_left _ _⟩
  have a4 : g4 ≤ p - g2 ∧ g4 ≤ c - g0 - g1 - g2 - g3 := by rw [e4]; exact ⟨Nat.min_le_right _ _, Nat.min_le_left _ _⟩
  have a5 : g2 = w2 ∨ c - g0 - g1 - g2 = 0 := by
    clear e0 e1 e3 e4 e5 a0 a1 a3 a4
    omega
  clear e0 e1 e2 e3 e4
  refine ⟨a0.1, a1.1, a2.1, a3.1, by omega, ?_, a0.2, a1.2, a2.2, a3.2, a4.2, e5⟩
  rcases a5 with q | q
  · omega
  · omega
set_option maxRecDepth 4000 in
theorem pp_core {S σ Q T : KS} {i o K t c p lv ac u w0 w1 w2 w3 dp cg nb nf rate mon rule how g0 g1 g2 g3 g4 g5 ac' u' : Nat} {bl : Int32} {bd : Nat → Nat} (hi : i < 3) (hg : pp_g c w0 w1 w2 w3 p g0 g1 g2 g3 g4 g5) (hc : c ≤ 200000000) (ht : t ≤ 1500) (h01 : σ 0 1 = nI t) (hot : o ≤ t) (hK1 : pm_due o K ≤ t) (hK2 : t < pm_due o (K + 1)) (hT : rl_T S σ i o rate mon rule how) (hM : rl_M S σ i p lv ac u w0 w1 w2 w3) (hA : rl_A S σ i bl dp cg) (hB : rl_B S σ i nb bd) (hD : rl_D S o K) (hN : rl_N o K K t p lv ac u w0 w1 w2 w3 bl dp cg nb nf bd) (hu1 : o ≤ u') (hu2 : u' ≤ t) (hac : ac' + w1 ≤ 250001 * (u' - o))
    (q1 : Q 0 1 = S 0 1 ∧ Q 0 2 = S 0 2 ∧ Q 0 3 = nI ac' ∧ Q 0 4 = nI u' ∧ Q 0 5 = S 0 5 ∧ Q 0 6 = S 0 6) (q2 : Q 0 10 = S 0 10 ∧ Q 0 11 = S 0 11 ∧ Q 0 12 = S 0 12 ∧ Q 0 13 = S 0 13 ∧ Q 0 14 = S 0 14 ∧ Q 0 15 = S 0 15 ∧ Q 0 16 = S 0 16) (q3 : Q 0 20 = S 0 20 ∧ Q 0 21 = S 0 21 ∧ Q 0 22 = S 0 22 ∧ Q 0 30 = S 0 30) (q4 : Q 1 = S 1 ∧ Q 2 = pp_up6 (S 2) 0 g0 g1 g2 g3 g4 g5 ∧ Q 4 = S 4)
    (r0 : T 0 0 = 0 ∧ T 0 1 = σ 0 1 ∧ T 0 2 = σ 0 2) (r1 : T 1 = σ 1 ∧ T 2 = σ 2 ∧ T 3 = σ 3 ∧ T 4 = σ 4 ∧ T 5 = σ 5 ∧ T 6 = σ 6 ∧ T 7 = σ 7 ∧ T 8 = σ 8) (r2 : T 9 i = nI ac' ∧ T 10 i = nI u' ∧ T 11 = σ 11 ∧ T 12 = σ 12 ∧ T 13 = σ 13) (r3 : T 14 = pp_up4 (σ 14) (4 * i) (w0 - g0) (w1 - g1) (w2 - g2) (w3 - g3) ∧ T 15 = upd (σ 15) i 1 ∧ T 16 = pp_up6 (σ 16) (6 * i) g0 g1 g2 g3 g4 g5) (r4 : T 17 = σ 17 ∧ T 18 = σ 18 ∧ T 19 = σ 19 ∧ T 20 = σ 20 ∧ T 21 = σ 21 ∧ T 22 = σ 22) (ro : pf_oth i σ T) :
    (pp_endN Q (nI g2 + nI g4) (nI t)).1 = (pp_endM T (nI i) (nI p - nI g2 - nI g4) (nI g4) (nI g5)).1 ∧ rl (pp_endN Q (nI g2 + nI g4) (nI t)).2 (pp_endM T (nI i) (nI p - nI g2 - nI g4) (nI g4) (nI g5)).2 i o K K t ∧ pf_oth i σ (pp_endM T (nI i) (nI p - nI g2 - nI g4) (nI g4) (nI g5)).2 ∧ (pp_endM T (nI i) (nI p - nI g2 - nI g4) (nI g4) (nI g5)).2 0 0 = 0 ∧ (pp_endM T (nI i) (nI p - nI g2 - nI g4) (nI g4) (nI g5)).2 0 1 = σ 0 1 ∧ (pp_endM T (nI i) (nI p - nI g2 - nI g4) (nI g4) (nI g5)).2 0 2 = σ 0 2 := by
  obtain ⟨⟨n1, n2, n3, n4, n5, n6⟩, ⟨n7, n8, n9⟩, ⟨a1, a2, a3, a4⟩, n10, n11, n12, n13, n14⟩ := hN
  obtain ⟨l0, l1, l2, l3, l4, l5, l6, l7, l8, l9, l10, _⟩ := pp_gin hg n6
  obtain ⟨⟨t1, t2, t3⟩, ⟨t4, t5, t6⟩, ⟨t7, t8, t9⟩, ⟨t10, t11, t12⟩, t13, t14, t15, t16, t17⟩ := hT
  obtain ⟨⟨x1, y1⟩, ⟨x2, y2⟩, ⟨x3, y3⟩, ⟨x4, y4⟩, ⟨x5, y5⟩, ⟨x6, y6⟩, ⟨x7, y7⟩, ⟨x8, y8⟩⟩ := hM
  obtain ⟨⟨z1, z2⟩, ⟨z3, z4⟩, ⟨z5, z6⟩⟩ := hA
  obtain ⟨q01, q02, q03, q04, q05, q06⟩ := q1
  obtain ⟨q10, q11, q12, q13, q14, q15, q16⟩ := q2
  obtain ⟨q20, q21, q22, q30⟩ := q3
  obtain ⟨qa1, qa2, qa4⟩ := q4
  obtain ⟨r00, r01, r02⟩ := r0
  obtain ⟨ra1, ra2, ra3, ra4, ra5, ra6, ra7, ra8⟩ := r1
  obtain ⟨ra9, ra10, ra11, ra12, ra13⟩ := r2
  obtain ⟨ra14, ra15, ra16⟩ := r3
  obtain ⟨ra17, ra18, ra19, ra20, ra21, ra22⟩ := r4
  have hK49 : K ≤ 49 := pc_K ht hK1
  have hw0 : w0 < 2 ^ 31 := by omega
  have hw1 : w1 < 2 ^ 31 := by omega
  have hw3 : w3 < 2 ^ 31 := by omega
  have hrp : nI g2 + nI g4 = nI (g2 + g4) := nI_add _ _
  have hnp : nI p - nI g2 - nI g4 = nI (p - g2 - g4) := by
    rw [pk_sub (by omega), pk_sub (by omega)]
  have j3 : (6 * nI i + 3).toNatClampNeg = 6 * i + 3 := ix_6 hi 3 (by decide)
  have i2 : (4 * nI i + 2).toNatClampNeg = 4 * i + 2 := ix_4 hi 2 (by decide)
  have P2 := pp_up6_0 (S 2) 0 g0 g1 g2 g3 g4 g5
  simp only [Nat.zero_add] at P2
  obtain ⟨P20, P21, P22, P23, P24, P25⟩ := P2
  obtain ⟨R0, R1, R2, R3, R4, R5⟩ := pp_up6_0 (σ 16) (6 * i) g0 g1 g2 g3 g4 g5
  obtain ⟨W0, W1, W2, W3⟩ := pp_up4_0 (σ 14) (4 * i) (w0 - g0) (w1 - g1) (w2 - g2) (w3 - g3)
  rw [hrp, hnp]
  have hF1 : pp_finN Q (nI (g2 + g4)) 1 = pp_up4 (S 1) 0 (w0 - g0) (w1 - g1) (w2 - g2) (w3 - g3) := by
    have hz : pp_finN Q (nI (g2 + g4)) 1 = upd (upd (upd (upd (Q 1) 0 ((Q 1 0) - (Q 2 0))) 1 ((Q 1 1) - (Q 2 1))) 2 ((Q 1 2) - (Q 2 2))) 3 ((Q 1 3) - (Q 2 3)) := rfl
    rw [hz, qa1, qa2, P20, P21, P22, P23, x5, x6, x7, x8, pk_sub l0, pk_sub l1, pk_sub l2, pk_sub l3]
    rfl
  have V := pp_up4_0 (S 1) 0 (w0 - g0) (w1 - g1) (w2 - g2) (w3 - g3)
  simp only [Nat.zero_add] at V
  obtain ⟨V0, V1, V2, V3⟩ := V
  have hblI : (bl + nI g3).toInt = bl.toInt + g3 := by
    rw [ks_add32 (by rw [nI_toInt (by omega)]; omega) (by rw [nI_toInt (by omega)]; omega), nI_toInt (by omega)]
  have hF : rl (pp_finN Q (nI (g2 + g4))) (pp_fin T (nI i) (nI (p - g2 - g4))) i o K K t := by
    refine ⟨rate, mon, rule, how, p - g2 - g4, lv, ac', u', w0 - g0, w1 - g1, w2 - g2, w3 - g3, dp, cg, nb, nf, bl + nI g3, bd, ?_, ?_, ?_, ?_, ?_, ?_, ?_⟩
    · refine ⟨⟨q10.trans t1, ?_, t3⟩, ⟨q11.trans t4, ?_, t6⟩, ⟨q12.trans t7, ?_, t9⟩, ⟨q13.trans t10, ?_, t12⟩, ?_, q15.trans t14, q16.trans t15, ?_, t17⟩
      · show T 2 i = _
        rw [ra2, t2]
      · show T 3 i = _
        rw [ra3, t5]
      · show T 4 i = _
        rw [ra4, t8]
      · show T 5 i = _
        rw [ra5, t11]
      · show Q 0 14 = T 6 i
        rw [ra6, q14, t13]
      · show T 1 i = _
        rw [ra1, t16]
    · refine ⟨⟨?_, ?_⟩, ⟨q02.trans x2, ?_⟩, ⟨q03, ra9⟩, ⟨q04, ra10⟩, ⟨?_, ?_⟩, ⟨?_, ?_⟩, ⟨?_, ?_⟩, ⟨?_, ?_⟩⟩
      · show Q 0 1 - nI (g2 + g4) = _
        rw [q01, x1, pk_sub (by omega)]
        congr 1
        omega
      · show upd (T 7) (nI i).toNatClampNeg _ i = _
        rw [ix_ln hi, up_eq]
      · show T 8 i = _
        rw [ra8, y2]
      · rw [hF1, V0]
      · show T 14 (4 * i) = _
        rw [ra14, W0]
      · rw [hF1, V1]
      · show T 14 (4 * i + 1) = _
        rw [ra14, W1]
      · rw [hF1, V2]
      · show T 14 (4 * i + 2) = _
        rw [ra14, W2]
      · rw [hF1, V3]
      · show T 14 (4 * i + 3) = _
        rw [ra14, W3]
    · refine ⟨⟨?_, ?_⟩, ⟨q21.trans z3, ?_⟩, ⟨q22.trans z5, ?_⟩⟩
      · show Q 0 20 + Q 2 3 = _
        rw [q20, z1, qa2, P23]
      · show upd (T 11) (nI i).toNatClampNeg ((T 11 (nI i).toNatClampNeg) + (T 16 (6 * nI i + 3).toNatClampNeg)) i = _
        rw [ix_ln hi, up_eq, j3, ra11, ra16, R3, z2]
      · show T 13 i = _
        rw [ra13, z4]
      · show T 12 i = _
        rw [ra12, z6]
    · refine ⟨⟨q30.trans hB.1.1, ?_⟩, fun q hq => ?_⟩
      · show T 17 i = _
        rw [ra17, hB.1.2]
      · show T 18 (60 * i + q) = _ ∧ Q 4 (5 * q) = T 18 (60 * i + q) ∧ Q 4 (5 * q + 1) = T 19 (60 * i + q) ∧ Q 4 (5 * q + 2) = T 20 (60 * i + q) ∧ Q 4 (5 * q + 3) = T 21 (60 * i + q) ∧ Q 4 (5 * q + 4) = T 22 (60 * i + q)
        rw [ra18, ra19, ra20, ra21, ra22, qa4]
        exact hB.2 q hq
    · refine ⟨?_, fun w hw => ?_⟩
      · show (1 : Int32) = T 15 i
        rw [ra15, up_eq]
      · show Q 2 w = T 16 (6 * i + w)
        rw [qa2, ra16]
        have hc : w = 0 ∨ w = 1 ∨ w = 2 ∨ w = 3 ∨ w = 4 ∨ w = 5 := by omega
        rcases hc with rfl | rfl | rfl | rfl | rfl | rfl
        · rw [P20]; exact R0.symm
        · rw [P21, R1]
        · rw [P22, R2]
        · rw [P23, R3]
        · rw [P24, R4]
        · rw [P25, R5]
    · exact ⟨q05.trans hD.1, q06.trans hD.2⟩
    · refine ⟨⟨by omega, n2, hu1, hu2, by omega, by omega⟩, ⟨by omega, n8, by omega⟩, ⟨by rw [hblI]; omega, by rw [hblI]; omega, a3, a4⟩, n10, n11, n12, n13, n14⟩
  have hoF : pf_oth i T (pp_fin T (nI i) (nI (p - g2 - g4))) := fun j hj => by
    refine ⟨⟨rfl, rfl, rfl, rfl, rfl, rfl, ?_, rfl, rfl, rfl, ?_, rfl, rfl, rfl, rfl⟩, fun w hw => rfl, fun _ _ => rfl, fun _ _ => ⟨rfl, rfl, rfl, rfl, rfl⟩⟩
    · show upd (T 7) (nI i).toNatClampNeg _ j = _
      rw [ix_ln hi, up_ne hj]
    · show upd (T 11) (nI i).toNatClampNeg _ j = _
      rw [ix_ln hi, up_ne hj]
  have ho2 := pf_oth_trans ro hoF
  have hF2 : pp_finN Q (nI (g2 + g4)) 2 5 = nI g5 := by
    show Q 2 5 = _
    rw [qa2, P25]
  unfold pp_endN pp_endM
  rw [qa2, P24, P25, ix_ln hi, i2, q14, ra6, t13]
  by_cases c1 : nI g4 ≤ (0 : Int32)
  · rw [if_pos c1, if_pos c1]
    exact ⟨rfl, hF, ho2, r00, r01, r02⟩
  · rw [if_neg c1, if_neg c1]
    by_cases c2 : σ 6 i = 0
    · rw [if_pos c2, if_pos c2]
      have hamM : pp_fin T (nI i) (nI (p - g2 - g4)) 7 i - pp_fin T (nI i) (nI (p - g2 - g4)) 14 (4 * i + 2) = nI (p - g2 - g4 - (w2 - g2)) := by
        show upd (T 7) (nI i).toNatClampNeg _ i - T 14 (4 * i + 2) = _
        rw [ix_ln hi, up_eq, ra14, W2, pk_sub (by omega)]
      have hamN : pp_finN Q (nI (g2 + g4)) 0 1 - pp_finN Q (nI (g2 + g4)) 1 2 = nI (p - g2 - g4 - (w2 - g2)) := by
        rw [hF1, V2, show pp_finN Q (nI (g2 + g4)) 0 1 = Q 0 1 - nI (g2 + g4) from rfl, q01, x1, pk_sub (by omega), pk_sub (by omega)]
        congr 1
        omega
      rw [hamM]
      have g1' : pp_fin T (nI i) (nI (p - g2 - g4)) 1 (nI i).toNatClampNeg = nI o := by
        show T 1 (nI i).toNatClampNeg = _
        rw [ix_ln hi, ra1, t16]
      have g2' : pp_fin T (nI i) (nI (p - g2 - g4)) 2 (nI i).toNatClampNeg = nI rate := by
        show T 2 (nI i).toNatClampNeg = _
        rw [ix_ln hi, ra2, t2]
      have g3' : pp_fin T (nI i) (nI (p - g2 - g4)) 3 (nI i).toNatClampNeg = nI mon := by
        show T 3 (nI i).toNatClampNeg = _
        rw [ix_ln hi, ra3, t5]
      have g4' : pp_fin T (nI i) (nI (p - g2 - g4)) 4 (nI i).toNatClampNeg = nI rule := by
        show T 4 (nI i).toNatClampNeg = _
        rw [ix_ln hi, ra4, t8]
      have g5' : pp_fin T (nI i) (nI (p - g2 - g4)) 5 (nI i).toNatClampNeg = nI how := by
        show T 5 (nI i).toNatClampNeg = _
        rw [ix_ln hi, ra5, t11]
      have g01' : pp_fin T (nI i) (nI (p - g2 - g4)) 0 1 = nI t := r01.trans h01
      obtain ⟨v, v1, v2, v3⟩ := pf_reckon (S := pp_finN Q (nI (g2 + g4))) (σ := pp_fin T (nI i) (nI (p - g2 - g4))) (ln := nI i) (t := t) (q10.trans t1) (q11.trans t4) (q12.trans t7) (q13.trans t10) (q15.trans t14) (q16.trans t15) (q05.trans hD.1) hamN g01' g1' g2' g3' g4' g5' t3 t9 t12 t17 t6 (by omega) hot (by omega) hK1 hK2 (by omega)
      rw [ix_ln hi] at v2
      have hR := rl_lv hF v1 v2 v3
      refine ⟨?_, hR, ?_, ?_⟩
      · show kN_reckonLevel (pp_finN Q (nI (g2 + g4))) (nI t) 2 5 = nI g5
        rw [v1.2.2.2.2.1]
        exact hF2
      · rcases v2 with e | ⟨e, _⟩
        · show pf_oth i σ (kM_reckon _ _ _)
          rw [e]
          exact pf_oth_trans ho2 pf_oth_set8
        · show pf_oth i σ (kM_reckon _ _ _)
          rw [e]
          exact ho2
      · rcases v2 with e | ⟨e, _⟩
        · show kM_reckon _ _ _ 0 0 = 0 ∧ kM_reckon _ _ _ 0 1 = _ ∧ kM_reckon _ _ _ 0 2 = _
          rw [e]
          exact ⟨r00, r01, r02⟩
        · show kM_reckon _ _ _ 0 0 = 0 ∧ kM_reckon _ _ _ 0 1 = _ ∧ kM_reckon _ _ _ 0 2 = _
          rw [e]
          exact ⟨r00, r01, r02⟩
    · rw [if_neg c2, if_neg c2]
      exact ⟨rfl, hF, ho2, r00, r01, r02⟩
set_option maxRecDepth 4000 in
theorem rl_pay {S σ : KS} {i o K t c : Nat} (hi : i < 3) (h : rl S σ i o K K t) (h01 : σ 0 1 = nI t) (ht : t ≤ 1500) (hot : o ≤ t) (hK1 : pm_due o K ≤ t) (hK2 : t < pm_due o (K + 1)) (hc : c ≤ 200000000) (hno : kM_none σ (nI i) = 0) (hwi : ¬ kM_within (nI c) 1 200000000 = 0) : (kN_takePayment S (nI c) (nI t)).1 = (kM_pay σ (nI i) (nI c)).1 ∧ rl (kN_takePayment S (nI c) (nI t)).2 (kM_pay σ (nI i) (nI c)).2 i o K K t ∧ pf_oth i σ (kM_pay σ (nI i) (nI c)).2 ∧ (kM_pay σ (nI i) (nI c)).2 0 0 = 0 ∧ (kM_pay σ (nI i) (nI c)).2 0 1 = σ 0 1 ∧ (kM_pay σ (nI i) (nI c)).2 0 2 = σ 0 2 := by
  obtain ⟨rate, mon, rule, how, p, lv, ac, u, w0, w1, w2, w3, dp, cg, nb, nf, bl, bd, hT, hM, hA, hB, hP, hD, hN⟩ := h
  obtain ⟨g0, g1, g2, g3, g4, g5, hg⟩ := pp_g_ex c w0 w1 w2 w3 p
  have hN0 := hN
  have hM0 := hM
  obtain ⟨⟨n1, n2, n3, n4, n5, n6⟩, ⟨n7, n8, n9⟩, _, n10, n11, _⟩ := hN0
  obtain ⟨⟨x1, y1⟩, ⟨x2, y2⟩, ⟨x3, y3⟩, ⟨x4, y4⟩, ⟨x5, y5⟩, ⟨x6, y6⟩, ⟨x7, y7⟩, ⟨x8, y8⟩⟩ := hM0
  have hw0 : w0 < 2 ^ 31 := by omega
  have hw1 : w1 < 2 ^ 31 := by omega
  have hw3 : w3 < 2 ^ 31 := by omega
  have eN := pp_valN hg hc hw0 hw1 n6 hw3 n1 x1 x5 x6 x7 x8
  obtain ⟨m0, m1, m2, m3, m4⟩ := pp_valM hi hg hc hw0 hw1 n6 hw3 n1 y1 y5 y6 y7 y8
  obtain ⟨l0, l1, l2, l3, l4, l5, l6, l7, l8, l9, l10, e5⟩ := pp_gin hg n6
  have eS := pp_spM (g4 := g4) (g5 := g5) hi l0 l1 l2 l3 y5 y6 y7 y8
  have hrest : ((((nI c - nI g0) - nI g1) - nI g2) - nI g3) - nI g4 = nI g5 := by
    rw [pk_sub l6, pk_sub l7, pk_sub l8, pk_sub l9, pk_sub l10, e5]
  have j0 : (6 * nI i + 0).toNatClampNeg = 6 * i := ix_6 hi 0 (by decide)
  have j1 : (6 * nI i + 1).toNatClampNeg = 6 * i + 1 := ix_6 hi 1 (by decide)
  have j2 : (6 * nI i + 2).toNatClampNeg = 6 * i + 2 := ix_6 hi 2 (by decide)
  have j3 : (6 * nI i + 3).toNatClampNeg = 6 * i + 3 := ix_6 hi 3 (by decide)
  have P2 := pp_up6_0 (S 2) 0 g0 g1 g2 g3 g4 g5
  simp only [Nat.zero_add] at P2
  obtain ⟨P20, P21, P22, P23, P24, P25⟩ := P2
  obtain ⟨R0, R1, R2, R3, R4, R5⟩ := pp_up6_0 (σ 16) (6 * i) g0 g1 g2 g3 g4 g5
  rw [pp_take, pp_pay, if_pos hno, if_neg hwi, m0, m1, m2, m3, m4, hrest, j0, j1, j2, j3, ix_ln hi, up_ne (show ¬ 6 * i + 2 = 6 * i + 3 by omega), up_eq, y1]
  have c2 : kN_splitPayment S (nI c) 2 2 = nI g2 := by
    rw [eN]
    exact P22
  have c4 : kN_splitPayment S (nI c) 2 4 = nI g4 := by
    rw [eN]
    exact P24
  have c16 : pp_split σ (nI i) (nI g0) (nI g1) (nI g2) (nI g3) (nI g4) (nI g5) 16 (6 * i + 2) = nI g2 := by
    rw [eS]
    exact R2
  rw [c2, c4, c16, show nI g4 + nI g2 = nI g2 + nI g4 from Int32.add_comm _ _]
  have ro : pf_oth i σ (mkM 0 (σ 0 1) (σ 0 2) (σ 0 3) (σ 0 4) (σ 0 5) (σ 1) (σ 2) (σ 3) (σ 4) (σ 5) (σ 6) (σ 7) (σ 8) (σ 9) (σ 10) (σ 11) (σ 12) (σ 13) (pp_up4 (σ 14) (4 * i) (w0 - g0) (w1 - g1) (w2 - g2) (w3 - g3)) (upd (σ 15) i 1) (pp_up6 (σ 16) (6 * i) g0 g1 g2 g3 g4 g5) (σ 17) (σ 18) (σ 19) (σ 20) (σ 21) (σ 22)) := fun j hj => by
    refine ⟨⟨rfl, rfl, rfl, rfl, rfl, rfl, rfl, rfl, rfl, rfl, rfl, rfl, rfl, ?_, rfl⟩, fun w hw => ?_, fun w hw => ?_, fun _ _ => ⟨rfl, rfl, rfl, rfl, rfl⟩⟩
    · show upd (σ 15) i 1 j = _
      rw [up_ne hj]
    · show pp_up4 (σ 14) (4 * i) (w0 - g0) (w1 - g1) (w2 - g2) (w3 - g3) (4 * j + w) = _
      rw [pp_up4_ne (by omega)]
    · show pp_up6 (σ 16) (6 * i) g0 g1 g2 g3 g4 g5 (6 * j + w) = _
      rw [pp_up6_ne (by omega)]
  by_cases ca : nI g2 + nI g4 ≤ (0 : Int32)
  · rw [if_pos ca, if_pos ca, eN, eS]
    exact pp_core hi hg hc ht h01 hot hK1 hK2 hT hM hA hB hD hN n3 n4 n5 ⟨rfl, rfl, x3, x4, rfl, rfl⟩ ⟨rfl, rfl, rfl, rfl, rfl, rfl, rfl⟩ ⟨rfl, rfl, rfl, rfl⟩ ⟨rfl, rfl, rfl⟩ ⟨rfl, rfl, rfl⟩ ⟨rfl, rfl, rfl, rfl, rfl, rfl, rfl, rfl⟩ ⟨y3, y4, rfl, rfl, rfl⟩ ⟨rfl, rfl, rfl⟩ ⟨rfl, rfl, rfl, rfl, rfl, rfl⟩ ro
  · rw [if_neg ca, if_neg ca, eN, eS]
    have hcc := pc_accr hi hT hM n1 n4 ht h01
    have hd := pi_days (how := how) n1 hT.1.2.2 hT.2.2.1.2.2 n4
    refine pp_core (ac' := ac + pi_on rate (ps_top rule u t) rule how p) (u' := t) hi hg hc ht h01 hot hK1 hK2 hT hM hA hB hD hN (by omega) (Nat.le_refl _) (by omega) ⟨rfl, rfl, hcc.1, rfl, rfl, rfl⟩ ⟨rfl, rfl, rfl, rfl, rfl, rfl, rfl⟩ ⟨rfl, rfl, rfl, rfl⟩ ⟨rfl, rfl, rfl⟩ ⟨rfl, rfl, rfl⟩ ⟨rfl, rfl, rfl, rfl, rfl, rfl, rfl, rfl⟩ ⟨?_, ?_, rfl, rfl, rfl⟩ ⟨rfl, rfl, rfl⟩ ⟨rfl, rfl, rfl, rfl, rfl, rfl⟩ (pf_oth_trans ro (pf_oth_accr hi))
    · show upd (σ 9) (nI i).toNatClampNeg ((σ 9 (nI i).toNatClampNeg) + (kM_own σ (nI i) (σ 7 (nI i).toNatClampNeg) (σ 10 (nI i).toNatClampNeg) (σ 0 1))) i = _
      rw [ix_ln hi, up_eq]
      exact hcc.2
    · show upd (σ 10) (nI i).toNatClampNeg (σ 0 1) i = _
      rw [ix_ln hi, up_eq, h01]
