/-! pure: due day, charge, interest, bill -/
set_option maxRecDepth 4000 in
theorem ks_sub32 {x y : Int32} (h1 : -2147483648 ≤ x.toInt - y.toInt) (h2 : x.toInt - y.toInt < 2147483648) : (x - y).toInt = x.toInt - y.toInt := by
  rw [Int32.toInt_sub]
  exact Int.bmod_eq_of_le (by omega) (by omega)
set_option maxRecDepth 4000 in
theorem ks_add32 {x y : Int32} (h1 : -2147483648 ≤ x.toInt + y.toInt) (h2 : x.toInt + y.toInt < 2147483648) : (x + y).toInt = x.toInt + y.toInt := by
  rw [Int32.toInt_add]
  exact Int.bmod_eq_of_le (by omega) (by omega)
set_option maxRecDepth 4000 in
theorem i32_of {x : Int32} {n : Nat} (hn : n < 2 ^ 31) (h : x.toInt = n) : x = nI n := by
  apply Int32.toInt_inj.1
  rw [h, nI_toInt hn]
set_option maxRecDepth 4000 in
theorem pc_K {o K t : Nat} (ht : t ≤ 1500) (h : pm_due o K ≤ t) : K ≤ 49 := by
  have h1 := (pm_due_is o K).1
  have h2 : pm_first 50 = 1521 := by decide
  rcases Nat.lt_or_ge K 50 with q | q
  · omega
  · have := pm_first_mono (show 50 ≤ pm_month o + K by omega)
    omega
set_option maxRecDepth 4000 in
theorem pc_dd {S σ : KS} {i o K rate mon rule how : Nat} (hT : rl_T S σ i o rate mon rule how) (hD : rl_D S o K) (hK : K ≤ 49) : rl_D (pq_next S) o (K + 1) := by
  have h15 := hT.2.2.2.2.2.1
  have h16 := hT.2.2.2.2.2.2.1
  have ho := hT.2.2.2.2.2.2.2.2
  have h5 := hD.1
  refine ⟨?_, ?_⟩
  · show S 0 5 + 1 = _
    rw [h5, nI_1]
  · show kT_dueDay S ((S 0 5 + 1) + 1) = _
    rw [h5, nI_1, nI_1]
    exact pe_dueDayT (by omega) (by omega) h15 h16
set_option maxRecDepth 4000 in
theorem rl_next {S σ : KS} {i o K t : Nat} (h : rl S σ i o K K t) (hK : K ≤ 49) : rl (pq_next S) σ i o (K + 1) K t := by
  obtain ⟨rate, mon, rule, how, p, lv, ac, u, w0, w1, w2, w3, dp, cg, nb, nf, bl, bd, hT, hM, hA, hB, hP, hD, n1, n2, ⟨n3, n4, n5, n6⟩, n7⟩ := h
  refine ⟨rate, mon, rule, how, p, lv, ac, u, w0, w1, w2, w3, dp, cg, nb, nf, bl, bd, hT, hM, hA, hB, hP, pc_dd hT hD hK, n1, n2, ⟨n3, ?_, n5, n6⟩, n7⟩
  have : K / 12 ≤ (K + 1) / 12 := by omega
  omega
set_option maxRecDepth 4000 in
theorem pc_twelfth {d : Nat} (h : d < 2 ^ 30) : kC_twelfth (nI d) = nI ((d + 11) / 12) := by
  unfold kC_twelfth
  rw [show nI d + 11 = nI (d + 11) from nI_add d 11]
  exact pk_div (d := 12) (by omega) (by decide) (by decide)
set_option maxRecDepth 4000 in
theorem pc_dep {b : Int32} {cg : Nat} (hcg : cg ≤ 10000000) (hb : -100000000 ≤ b.toInt) : ∃ d : Nat, d ≤ cg + 100000000 ∧ (d : Int) ≤ max (cg : Int) (cg - b.toInt) ∧ nI cg + kmax (0 : Int32) (-b) = nI d ∧ (if (0 : Int32) ≤ b then nI cg else nI cg - b) = nI d := by
  have hneg : (-b).toInt = -b.toInt := by
    rw [Int32.toInt_neg]
    have h2 := Int32.toInt_lt b
    exact Int.bmod_eq_of_le (by omega) (by omega)
  unfold kmax
  by_cases q : (0 : Int32) ≤ b
  · have q' : (0 : Int) ≤ b.toInt := Int32.le_iff_toInt_le.1 q
    refine ⟨cg, by omega, by omega, ?_, ?_⟩
    · rw [if_neg (fun h => ?_)]
      · exact Int32.add_zero _
      · have h' : (0 : Int) < (-b).toInt := Int32.lt_iff_toInt_lt.1 h
        omega
    · rw [if_pos q]
  · have q' : ¬ (0 : Int) ≤ b.toInt := fun h => q (Int32.le_iff_toInt_le.2 h)
    have e2 : nI cg - b = nI (cg + (-b.toInt).toNat) := by
      apply i32_of (by omega)
      rw [ks_sub32 (by rw [nI_toInt (by omega)]; omega) (by rw [nI_toInt (by omega)]; omega), nI_toInt (by omega)]
      omega
    refine ⟨cg + (-b.toInt).toNat, by omega, by omega, ?_, ?_⟩
    · rw [if_pos (Int32.lt_iff_toInt_lt.2 (by rw [hneg]; show (0 : Int) < _; omega)), ← e2]
      exact (Int32.sub_eq_add_neg _ _).symm
    · rw [if_neg q, e2]
set_option maxRecDepth 4000 in
theorem rl_chg {S σ : KS} {i o K t : Nat} (hi : i < 3) (h : rl S σ i o K K t) (hK : K ≤ 48) (h12 : (K + 1) % 12 = 0) : rl (kA_payCharge (pq_next S)) (pq_chg σ (nI i)) i o (K + 1) K t := by
  obtain ⟨rate, mon, rule, how, p, lv, ac, u, w0, w1, w2, w3, dp, cg, nb, nf, bl, bd, hT, hM, hA, hB, hP, hD, n1, n2, ⟨n3, n4, n5, n6⟩, n7⟩ := h
  obtain ⟨⟨x1, y1⟩, ⟨x2, y2⟩, ⟨x3, y3⟩⟩ := hA
  have hnb := n7.2.1
  have hbl : (bl - nI cg).toInt = bl.toInt - cg := by
    rw [ks_sub32 (by rw [nI_toInt (by omega)]; omega) (by rw [nI_toInt (by omega)]; omega), nI_toInt (by omega)]
  obtain ⟨d, d1, d2, d3, d4⟩ := pc_dep (b := bl - nI cg) n6 (by rw [hbl]; omega)
  rw [hbl] at d2
  refine ⟨rate, mon, rule, how, p, lv, ac, u, w0, w1, w2, w3, (d + 11) / 12, cg, nb, nf, bl - nI cg, bd, hT, hM, ⟨⟨?_, ?_⟩, ⟨?_, ?_⟩, ⟨x3, y3⟩⟩, hB, hP, pc_dd hT hD (by omega), n1, n2, ⟨by rw [hbl]; omega, ?_, by omega, n6⟩, n7⟩
  · show S 0 20 - S 0 22 = _
    rw [x1, x3]
  · show upd (σ 11) (nI i).toNatClampNeg ((σ 11 (nI i).toNatClampNeg) - (σ 12 (nI i).toNatClampNeg)) i = _
    rw [ix_ln hi, up_eq, y1, y3]
  · show kC_twelfth (S 0 22 + kmax 0 (-(S 0 20 - S 0 22))) = _
    rw [x1, x3, d3, pc_twelfth (by omega)]
  · show upd (σ 13) (nI i).toNatClampNeg (kM_twelfth (if (0 : Int32) ≤ ((upd (σ 11) (nI i).toNatClampNeg ((σ 11 (nI i).toNatClampNeg) - (σ 12 (nI i).toNatClampNeg))) (nI i).toNatClampNeg) then σ 12 (nI i).toNatClampNeg else (σ 12 (nI i).toNatClampNeg) - ((upd (σ 11) (nI i).toNatClampNeg ((σ 11 (nI i).toNatClampNeg) - (σ 12 (nI i).toNatClampNeg))) (nI i).toNatClampNeg))) i = _
    rw [ix_ln hi, up_eq, up_eq, y1, y3, d4]
    exact pc_twelfth (by omega)
  · rw [hbl]
    have : (K + 1) / 12 = K / 12 + 1 := by omega
    omega
set_option maxRecDepth 4000 in
theorem pf_oth_chg {σ : KS} {i : Nat} (hi : i < 3) : pf_oth i σ (pq_chg σ (nI i)) := fun j hj => by
  refine ⟨⟨rfl, rfl, rfl, rfl, rfl, rfl, rfl, rfl, rfl, rfl, ?_, rfl, ?_, rfl, rfl⟩, fun w hw => rfl, fun _ _ => rfl, fun _ _ => ⟨rfl, rfl, rfl, rfl, rfl⟩⟩
  · show upd (σ 11) (nI i).toNatClampNeg _ j = _
    rw [ix_ln hi, up_ne hj]
  · show upd (σ 13) (nI i).toNatClampNeg _ j = _
    rw [ix_ln hi, up_ne hj]
set_option maxRecDepth 4000 in
/-- interest up to today -/
theorem pc_accr {S σ : KS} {i o t rate mon rule how p lv ac u w0 w1 w2 w3 : Nat} (hi : i < 3) (hT : rl_T S σ i o rate mon rule how) (hM : rl_M S σ i p lv ac u w0 w1 w2 w3) (hp : p ≤ 100000000) (hut : u ≤ t) (ht : t ≤ 1500) (h01 : σ 0 1 = nI t) : kN_accruedBy S (nI t) = nI (ac + pi_on rate (ps_top rule u t) rule how p) ∧ σ 9 i + kM_own σ (nI i) (σ 7 i) (σ 10 i) (σ 0 1) = nI (ac + pi_on rate (ps_top rule u t) rule how p) := by
  obtain ⟨⟨t1, t2, t3⟩, ⟨t4, t5, t6⟩, ⟨t7, t8, t9⟩, ⟨t10, t11, t12⟩, _⟩ := hT
  obtain ⟨⟨x1, y1⟩, ⟨x2, y2⟩, ⟨x3, y3⟩, ⟨x4, y4⟩, _⟩ := hM
  have htop : ps_top rule u t ≤ 1464000 := by
    have := (ps_top_days t9 hut).2
    omega
  constructor
  · unfold kN_accruedBy
    rw [x1, x3, x4, t1, t7, t10, pe_top t9 hut (by omega), pe_on hp t3 htop t9 t12, nI_add]
  · unfold kM_own
    rw [y1, y3, y4, h01, ix_ln hi, t2, t8, t11, pe_onM hp t3 t9 t12 hut (by omega) htop, nI_add]
set_option maxRecDepth 4000 in
theorem rl_accr {S σ : KS} {i o K KB t : Nat} (hi : i < 3) (h : rl S σ i o K KB t) (ht : t ≤ 1500) (h01 : σ 0 1 = nI t) : rl (kN_accrue S (nI t)) (kM_accrue σ (nI i)) i o K KB t := by
  obtain ⟨rate, mon, rule, how, p, lv, ac, u, w0, w1, w2, w3, dp, cg, nb, nf, bl, bd, hT, hM, hA, hB, hP, hD, ⟨n1, n2, n3, n4, n5, n6⟩, n7⟩ := h
  have hc := pc_accr hi hT hM n1 n4 ht h01
  have hd := pi_days (how := how) n1 hT.1.2.2 hT.2.2.1.2.2 n4
  obtain ⟨⟨x1, y1⟩, ⟨x2, y2⟩, ⟨x3, y3⟩, ⟨x4, y4⟩, hR⟩ := hM
  refine ⟨rate, mon, rule, how, p, lv, ac + pi_on rate (ps_top rule u t) rule how p, t, w0, w1, w2, w3, dp, cg, nb, nf, bl, bd, hT, ⟨⟨x1, y1⟩, ⟨x2, y2⟩, ⟨hc.1, ?_⟩, ⟨rfl, ?_⟩, hR⟩, hA, hB, hP, hD, ⟨n1, n2, by omega, Nat.le_refl _, by omega, n6⟩, n7⟩
  · show upd (σ 9) (nI i).toNatClampNeg ((σ 9 (nI i).toNatClampNeg) + (kM_own σ (nI i) (σ 7 (nI i).toNatClampNeg) (σ 10 (nI i).toNatClampNeg) (σ 0 1))) i = _
    rw [ix_ln hi, up_eq]
    exact hc.2
  · show upd (σ 10) (nI i).toNatClampNeg (σ 0 1) i = _
    rw [ix_ln hi, up_eq, h01]
set_option maxRecDepth 4000 in
theorem pf_oth_accr {σ : KS} {i : Nat} (hi : i < 3) : pf_oth i σ (kM_accrue σ (nI i)) := fun j hj => by
  refine ⟨⟨rfl, rfl, rfl, rfl, rfl, rfl, rfl, rfl, ?_, ?_, rfl, rfl, rfl, rfl, rfl⟩, fun w hw => rfl, fun _ _ => rfl, fun _ _ => ⟨rfl, rfl, rfl, rfl, rfl⟩⟩
  · show upd (σ 9) (nI i).toNatClampNeg _ j = _
    rw [ix_ln hi, up_ne hj]
  · show upd (σ 10) (nI i).toNatClampNeg _ j = _
    rw [ix_ln hi, up_ne hj]
def pq_mb (σ : KS) (ln part more : Int32) : KS := mkM (σ 0 0) (σ 0 1) (σ 0 2) (σ 0 3) (σ 0 4) (σ 0 5) (σ 1) (σ 2) (σ 3) (σ 4) (σ 5) (σ 6) (σ 7) (σ 8) (upd (σ 9) ln.toNatClampNeg 0) (σ 10) (σ 11) (σ 12) (σ 13) (upd (upd (upd (σ 14) (((4 * ln) + 1).toNatClampNeg) ((σ 14 (((4 * ln) + 1).toNatClampNeg)) + (σ 9 ln.toNatClampNeg))) (((4 * ln) + 2).toNatClampNeg) (((upd (σ 14) (((4 * ln) + 1).toNatClampNeg) ((σ 14 (((4 * ln) + 1).toNatClampNeg)) + (σ 9 ln.toNatClampNeg))) (((4 * ln) + 2).toNatClampNeg)) + part)) (((4 * ln) + 3).toNatClampNeg) (((upd (upd (σ 14) (((4 * ln) + 1).toNatClampNeg) ((σ 14 (((4 * ln) + 1).toNatClampNeg)) + (σ 9 ln.toNatClampNeg))) (((4 * ln) + 2).toNatClampNeg) (((upd (σ 14) (((4 * ln) + 1).toNatClampNeg) ((σ 14 (((4 * ln) + 1).toNatClampNeg)) + (σ 9 ln.toNatClampNeg))) (((4 * ln) + 2).toNatClampNeg)) + part)) (((4 * ln) + 3).toNatClampNeg)) + more)) (σ 15) (σ 16) (upd (σ 17) ln.toNatClampNeg ((σ 17 ln.toNatClampNeg) + 1)) (upd (σ 18) (((60 * ln) + (σ 17 ln.toNatClampNeg)).toNatClampNeg) (σ 0 1)) (upd (σ 19) (((60 * ln) + (σ 17 ln.toNatClampNeg)).toNatClampNeg) (σ 7 ln.toNatClampNeg)) (upd (σ 20) (((60 * ln) + (σ 17 ln.toNatClampNeg)).toNatClampNeg) (σ 9 ln.toNatClampNeg)) (upd (σ 21) (((60 * ln) + (σ 17 ln.toNatClampNeg)).toNatClampNeg) part) (upd (σ 22) (((60 * ln) + (σ 17 ln.toNatClampNeg)).toNatClampNeg) more)
set_option maxRecDepth 4000 in
theorem pq_mb_is (σ : KS) (ln kd : Int32) : kM_makeBill σ ln kd = pq_mb σ ln (if ((σ 7 ln.toNatClampNeg) - (σ 14 (((4 * ln) + 2).toNatClampNeg))) < (if (σ 8 ln.toNatClampNeg) ≤ (σ 9 ln.toNatClampNeg) then (0 : Int32) else (σ 8 ln.toNatClampNeg) - (σ 9 ln.toNatClampNeg)) then ((σ 7 ln.toNatClampNeg) - (σ 14 (((4 * ln) + 2).toNatClampNeg))) else (if kd < (σ 3 ln.toNatClampNeg) then (if (σ 8 ln.toNatClampNeg) ≤ (σ 9 ln.toNatClampNeg) then (0 : Int32) else (σ 8 ln.toNatClampNeg) - (σ 9 ln.toNatClampNeg)) else ((σ 7 ln.toNatClampNeg) - (σ 14 (((4 * ln) + 2).toNatClampNeg))))) (if (σ 7 ln.toNatClampNeg) ≤ (0 : Int32) then (0 : Int32) else σ 13 ln.toNatClampNeg) := by
  unfold kM_makeBill
  by_cases h1 : ((σ 7 ln.toNatClampNeg) - (σ 14 (((4 * ln) + 2).toNatClampNeg))) < (if (σ 8 ln.toNatClampNeg) ≤ (σ 9 ln.toNatClampNeg) then (0 : Int32) else (σ 8 ln.toNatClampNeg) - (σ 9 ln.toNatClampNeg))
  · rw [if_pos h1, if_pos h1]
    rfl
  · rw [if_neg h1, if_neg h1]
    by_cases h2 : kd < (σ 3 ln.toNatClampNeg)
    · rw [if_pos h2, if_pos h2]
      rfl
    · rw [if_neg h2, if_neg h2]
      rfl
