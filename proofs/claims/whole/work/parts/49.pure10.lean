/-! pure: the steps of a day keep the relation -/
set_option maxRecDepth 4000 in
theorem kmin_eq (x y : Int32) : kmin x y = if x ≤ y then x else y := by
  unfold kmin
  by_cases h : x ≤ y
  · rw [if_pos h, if_neg (Int32.not_lt.2 h)]
  · rw [if_neg h, if_pos (Int32.not_le.1 h)]
set_option maxRecDepth 4000 in
theorem rl_fee0 {S σ : KS} {i o K KB t : Nat} (h : rl S σ i o K KB t) (hn : ∀ nb : Nat, ∀ bd : Nat → Nat, rl_B S σ i nb bd → 0 < nb → ¬ t + 1 = bd (nb - 1) + 10) : rl S σ i o K KB (t + 1) := by
  obtain ⟨rate, mon, rule, how, p, lv, ac, u, w0, w1, w2, w3, dp, cg, nb, nf, bl, bd, hT, hM, hA, hB, hP, hD, ⟨n1, n2, n3, n4, n5, n6⟩, n7, n8, n9, n10, n11, n12, n13⟩ := h
  refine ⟨rate, mon, rule, how, p, lv, ac, u, w0, w1, w2, w3, dp, cg, nb, nf, bl, bd, hT, hM, hA, hB, hP, hD, ⟨n1, n2, n3, by omega, n5, n6⟩, n7, n8, n9, n10, n11, n12, fun h0 h1 => n13 h0 (by omega)⟩
set_option maxRecDepth 4000 in
theorem rl_fee1 {S σ : KS} {i o K KB t nb nf p lv ac u w0 w1 w2 w3 dp cg rate mon rule how : Nat} {bl : Int32} {bd : Nat → Nat} (hi : i < 3) (ht : t < 1500) (hT : rl_T S σ i o rate mon rule how) (hM : rl_M S σ i p lv ac u w0 w1 w2 w3) (hA : rl_A S σ i bl dp cg) (hB : rl_B S σ i nb bd) (hP : rl_P S σ i) (hD : rl_D S o K) (hN : rl_N o K KB t p lv ac u w0 w1 w2 w3 bl dp cg nb nf bd) (h0 : 0 < nb) (hday : t + 1 = bd (nb - 1) + 10) : (¬ lg_cmp (pq_late σ (nI i)) 0 ≤ 0 → rl (kN_addLateFee S) (pq_fee σ (nI i)) i o K KB (t + 1)) ∧ (lg_cmp (pq_late σ (nI i)) 0 ≤ 0 → rl (kN_addLateFee S) σ i o K KB (t + 1)) := by
  obtain ⟨⟨n1, n2, n3, n4, n5, n6⟩, ⟨n7, n8, n8b⟩, ⟨n9a, n9b, n9c, n9d⟩, n9, n10, n11, n12, n13⟩ := hN
  obtain ⟨⟨x1, y1⟩, ⟨x2, y2⟩, ⟨x3, y3⟩, ⟨x4, y4⟩, ⟨x5, y5⟩, ⟨x6, y6⟩, ⟨x7, y7⟩, ⟨x8, y8⟩⟩ := hM
  have hw1 : w1 ≤ 380000000 := by omega
  have hw3 : w3 ≤ 210000000 := by omega
  have hlate : pq_late σ (nI i) = nL (w1 + w2 + w3) := by
    unfold pq_late
    rw [show (4 * nI i + 1).toNatClampNeg = 4 * i + 1 from ix_4 hi 1 (by decide), show (4 * nI i + 2).toNatClampNeg = 4 * i + 2 from ix_4 hi 2 (by decide), show (4 * nI i + 3).toNatClampNeg = 4 * i + 3 from ix_4 hi 3 (by decide), y6, y7, y8, nL_of (by omega), nL_of (by omega), nL_of (by omega), nL_add, nL_add]
  have hlateN : (((S 1 1).toInt64) + ((S 1 2).toInt64)) + ((S 1 3).toInt64) = nL (w1 + w2 + w3) := by
    rw [x6, x7, x8, nL_of (by omega), nL_of (by omega), nL_of (by omega), nL_add, nL_add]
  have hhow : how < 4 := hT.2.2.2.1.2.2
  have hS13 : S 0 13 = nI how := hT.2.2.2.1.1
  have hσ5 : σ 5 i = nI how := hT.2.2.2.1.2.1
  have hfee : kC_rounded ((((S 1 1).toInt64) + ((S 1 2).toInt64)) + ((S 1 3).toInt64)) (20 : Int64) (S 0 13) = nI (pr_rnd (w1 + w2 + w3) 20 how) := by
    rw [hlateN, hS13, pe_rounded (pe_r4of hhow) ((lg_cmp_gt _ _).2 (by decide)), show (20 : Int64) = nL 20 from rfl, pe_rnd hhow (by decide) (by decide) (by omega), nL_to]
  have hfeeM : aM_dayOfLoan_r_100 σ (nI i) = nL (pr_rnd (w1 + w2 + w3) 20 how) := by
    show kM_rounded (pq_late σ (nI i)) (20 : Int64) (σ 5 (nI i).toNatClampNeg) = _
    rw [hlate, ix_ln hi, hσ5, show (20 : Int64) = nL 20 from rfl, pe_rnd hhow (by decide) (by decide) (by omega)]
  have hb := pr_rnd_le (w1 + w2 + w3) 20 how
  have hnf : nf + 1 ≤ nb := n13 h0 (by omega)
  have hs0 : kN_addLateFee S 1 0 = nI (w0 + pr_rnd (w1 + w2 + w3) 20 how) := by
    show upd (S 1) 0 _ 0 = _
    rw [hfee, x5, nI_add]
    exact up_eq _ _ _
  have hN' : rl_N o K KB (t + 1) p lv ac u (w0 + pr_rnd (w1 + w2 + w3) 20 how) w1 w2 w3 bl dp cg nb (nf + 1) bd := ⟨⟨n1, n2, n3, by omega, n5, n6⟩, ⟨by omega, hnf, n8b⟩, ⟨n9a, n9b, n9c, n9d⟩, n9, n10, n11, n12, fun _ h1 => by omega⟩
  constructor
  · intro hp
    refine ⟨rate, mon, rule, how, p, lv, ac, u, w0 + pr_rnd (w1 + w2 + w3) 20 how, w1, w2, w3, dp, cg, nb, nf + 1, bl, bd, hT, ?_, hA, hB, hP, hD, hN'⟩
    have q0 : pq_fee σ (nI i) 14 = upd (σ 14) (4 * i) (nI (w0 + pr_rnd (w1 + w2 + w3) 20 how)) := by
      show upd (σ 14) ((4 * nI i).toNatClampNeg) ((σ 14 ((4 * nI i).toNatClampNeg)) + (aM_dayOfLoan_r_100 σ (nI i)).toInt32) = _
      rw [ix_40 hi, hfeeM, nL_to, y5, nI_add]
    refine ⟨⟨x1, y1⟩, ⟨x2, y2⟩, ⟨x3, y3⟩, ⟨x4, y4⟩, ⟨hs0, ?_⟩, ⟨x6, ?_⟩, ⟨x7, ?_⟩, ⟨x8, ?_⟩⟩
    · rw [q0, up_eq]
    · rw [q0, up_ne (by omega), y6]
    · rw [q0, up_ne (by omega), y7]
    · rw [q0, up_ne (by omega), y8]
  · intro hp
    rw [hlate, lg_cmp_le] at hp
    have hz : w1 + w2 + w3 = 0 := by
      have := (nL_leI (b := 0) (by omega) (by decide)).1 hp
      omega
    have hz2 : pr_rnd (w1 + w2 + w3) 20 how = 0 := by rw [hz]; exact pr_rnd_0 how (by decide)
    rw [hz2] at hs0 hN'
    exact ⟨rate, mon, rule, how, p, lv, ac, u, w0, w1, w2, w3, dp, cg, nb, nf + 1, bl, bd, hT, ⟨⟨x1, y1⟩, ⟨x2, y2⟩, ⟨x3, y3⟩, ⟨x4, y4⟩, ⟨hs0, y5⟩, ⟨x6, y6⟩, ⟨x7, y7⟩, ⟨x8, y8⟩⟩, hA, hB, hP, hD, hN'⟩
set_option maxRecDepth 4000 in
theorem pf_oth_fee {σ : KS} {i : Nat} (hi : i < 3) : pf_oth i σ (pq_fee σ (nI i)) := fun j hj => by
  refine ⟨⟨rfl, rfl, rfl, rfl, rfl, rfl, rfl, rfl, rfl, rfl, rfl, rfl, rfl, rfl, rfl⟩, fun w hw => ?_, fun _ _ => rfl, fun _ _ => ⟨rfl, rfl, rfl, rfl, rfl⟩⟩
  show upd (σ 14) ((4 * nI i).toNatClampNeg) _ (4 * j + w) = _
  rw [ix_40 hi, up_ne (by omega)]
set_option maxRecDepth 4000 in
/-- the first step of a day -/
theorem rl_step1 {S σ : KS} {i o K t : Nat} (hi : i < 3) (ht : t < 1500) (h : rl S σ i o K K t) (h01 : σ 0 1 = nI (t + 1)) (hK : pm_due o K ≤ t) : ∃ S1 σ1, kN_beginDay S (nI (t + 1)) = pq_restN S1 (nI (t + 1)) ∧ kM_dayOfLoan σ (nI i) = pq_rest σ1 (nI i) (kM_whichDue σ1 (nI i)) ∧ rl S1 σ1 i o K K (t + 1) ∧ σ1 0 1 = nI (t + 1) ∧ σ1 0 2 = σ 0 2 ∧ pf_oth i σ σ1 := by
  have hh := h
  obtain ⟨rate, mon, rule, how, p, lv, ac, u, w0, w1, w2, w3, dp, cg, nb, nf, bl, bd, hT, hM, hA, hB, hP, hD, hN⟩ := hh
  rw [pq_begin, pq_day]
  rcases pb_same hi hN.2.2.2.2.1 hB h01 (by omega) hN.2.2.2.2.2.1 hN.2.2.2.2.2.2.1 hK with ⟨c1, c2, c3⟩ | ⟨c1, c2, c3, c4⟩
  · rw [if_pos c1, if_pos c2]
    refine ⟨S, σ, rfl, rfl, ?_, h01, rfl, pf_oth_refl i σ⟩
    obtain ⟨⟨n1, n2, n3, n4, n5, n6⟩, n7, n8, n9, n10, n11, n12, n13⟩ := hN
    exact ⟨rate, mon, rule, how, p, lv, ac, u, w0, w1, w2, w3, dp, cg, nb, nf, bl, bd, hT, hM, hA, hB, hP, hD, ⟨n1, n2, n3, by omega, n5, n6⟩, n7, n8, n9, n10, n11, n12, fun h0 h1 => n13 h0 (by omega)⟩
  · rw [if_neg c1, if_neg c2]
    have hf := rl_fee1 hi ht hT hM hA hB hP hD hN c3 c4
    by_cases q : lg_cmp (pq_late σ (nI i)) 0 ≤ 0
    · rw [if_pos q]
      exact ⟨kN_addLateFee S, σ, rfl, rfl, hf.2 q, h01, rfl, pf_oth_refl i σ⟩
    · rw [if_neg q]
      exact ⟨kN_addLateFee S, pq_fee σ (nI i), rfl, rfl, hf.1 q, h01, rfl, pf_oth_fee hi⟩
