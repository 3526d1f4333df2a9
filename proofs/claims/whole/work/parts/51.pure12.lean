/-! pure: a bill made on both sides; a whole day of a loan -/
def pq_mbN (S : KS) (t part more : Int32) : KS := kB_add (mkL (S 0 0) (S 0 1) (S 0 2) 0 (S 0 4) (S 0 5) (S 0 6) (S 0 10) (S 0 11) (S 0 12) (S 0 13) (S 0 14) (S 0 15) (S 0 16) (S 0 20) (S 0 21) (S 0 22) (S 0 30) (upd (upd (upd (S 1) 1 ((S 1 1) + (S 0 3))) 2 ((S 1 2) + part)) 3 ((S 1 3) + more)) (S 2) (S 3) (S 4)) t (S 0 1) (S 0 3) part more
set_option maxRecDepth 4000 in
theorem pq_mbN_is (S : KS) (t : Int32) : kN_makeBill S t = pq_mbN S t (kN_partToBill S (S 0 3)) (if S 0 1 ≤ (0 : Int32) then 0 else S 0 21) := by
  unfold kN_makeBill
  by_cases h : S 0 1 ≤ (0 : Int32)
  · rw [if_pos h, if_pos h]
    rfl
  · rw [if_neg h, if_neg h]
    rfl
set_option maxRecDepth 4000 in
theorem pc_kmax {a b : Nat} (ha : a < 2 ^ 30) (hb : b < 2 ^ 30) : kmax (0 : Int32) (nI a - nI b) = nI (a - b) := by
  unfold kmax
  by_cases q : a ≤ b
  · rw [if_neg (fun h => ?_), show a - b = 0 by omega]
    · rfl
    · have h' := Int32.lt_iff_toInt_lt.1 h
      rw [pk_sub_toInt ha hb] at h'
      have h'' : (0 : Int) < (a : Int) - b := h'
      omega
  · rw [if_pos (Int32.lt_iff_toInt_lt.2 (by rw [pk_sub_toInt ha hb]; show (0 : Int) < _; omega)), pk_sub (by omega)]
def pc_part (K mon p w2 lv ac : Nat) : Nat := if K < mon then min (p - w2) (lv - ac) else p - w2
set_option maxRecDepth 4000 in
theorem pc_part_le (K mon p w2 lv ac : Nat) : pc_part K mon p w2 lv ac ≤ p - w2 := by
  unfold pc_part
  split <;> omega
set_option maxRecDepth 4000 in
theorem pc_partN {S : KS} {K mon p w2 lv ac : Nat} (h5 : S 0 5 = nI K) (h11 : S 0 11 = nI mon) (h1 : S 0 1 = nI p) (h12 : S 1 2 = nI w2) (h2 : S 0 2 = nI lv) (h3 : S 0 3 = nI ac) (hK : K < 1000) (hm : mon ≤ 36) (hp : p ≤ 100000000) (hw : w2 ≤ p) (hl : lv ≤ 120000000) (ha : ac ≤ 400000000) : kN_partToBill S (S 0 3) = nI (pc_part K mon p w2 lv ac) := by
  unfold kN_partToBill pc_part
  rw [h5, h11, h1, h12, h2, h3, pk_sub hw, pc_kmax (by omega) (by omega), pe_kmin (by omega) (by omega)]
  by_cases q : K < mon
  · rw [if_pos q, if_pos (nI_lt q (by omega))]
  · rw [if_neg q, if_neg (nI_nlt (by omega) (by omega))]
set_option maxRecDepth 4000 in
theorem rl_bill {S σ : KS} {i o KB t : Nat} (hi : i < 3) (h : rl S σ i o (KB + 1) KB t) (ht : t = pm_due o (KB + 1)) (h01 : σ 0 1 = nI t) (hK : KB + 1 ≤ 49) : rl (kN_makeBill S (nI t)) (kM_makeBill σ (nI i) (nI (KB + 1))) i o (KB + 1) (KB + 1) t := by
  obtain ⟨rate, mon, rule, how, p, lv, ac, u, w0, w1, w2, w3, dp, cg, nb, nf, bl, bd, hT, hM, hA, hB, hP, hD, ⟨n1, n2, n3, n4, n5, n6⟩, ⟨n7, n8, n9⟩, ⟨a1, a2, a3, a4⟩, n10, n11, n12, n13, n14⟩ := h
  have hT0 := hT
  have hM0 := hM
  obtain ⟨⟨t1, t2, t3⟩, ⟨t4, t5, t6⟩, _⟩ := hT0
  obtain ⟨⟨x1, y1⟩, ⟨x2, y2⟩, ⟨x3, y3⟩, ⟨x4, y4⟩, ⟨x5, y5⟩, ⟨x6, y6⟩, ⟨x7, y7⟩, ⟨x8, y8⟩⟩ := hM0
  have hac : ac ≤ 400000000 := by
    have hle := pm_due_le o (KB + 1)
    have := hT.2.2.2.2.2.2.2.2
    have : u - o ≤ 31 * 50 := by omega
    omega
  have hpN := pc_partN hD.1 t4 x1 x7 x2 x3 (by omega) t6 n1 n6 n2 hac
  have hpl := pc_part_le (KB + 1) mon p w2 lv ac
  have h42 : (4 * nI i + 2).toNatClampNeg = 4 * i + 2 := ix_4 hi 2 (by decide)
  have h41 : (4 * nI i + 1).toNatClampNeg = 4 * i + 1 := ix_4 hi 1 (by decide)
  have h43 : (4 * nI i + 3).toNatClampNeg = 4 * i + 3 := ix_4 hi 3 (by decide)
  have hX : (if nI lv ≤ nI ac then (0 : Int32) else nI lv - nI ac) = nI (lv - ac) := by
    by_cases q : lv ≤ ac
    · rw [if_pos ((nI_leI (by omega) (by omega)).2 q), show lv - ac = 0 by omega]
      rfl
    · rw [if_neg (fun h => q ((nI_leI (by omega) (by omega)).1 h)), pk_sub (by omega)]
  have hpM : (if (nI p - nI w2) < nI (lv - ac) then (nI p - nI w2) else (if nI (KB + 1) < nI mon then nI (lv - ac) else (nI p - nI w2))) = nI (pc_part (KB + 1) mon p w2 lv ac) := by
    rw [pk_sub n6]
    unfold pc_part
    by_cases q : p - w2 < lv - ac
    · rw [if_pos (nI_lt q (by omega))]
      split
      · rw [Nat.min_eq_left (by omega)]
      · rfl
    · rw [if_neg (nI_nlt (by omega) (by omega))]
      by_cases q2 : KB + 1 < mon
      · rw [if_pos (nI_lt q2 (by omega)), if_pos q2, Nat.min_eq_right (by omega)]
      · rw [if_neg (nI_nlt (by omega) (by omega)), if_neg q2]
  have hmo : ∃ mo : Nat, mo ≤ dp ∧ (if nI p ≤ (0 : Int32) then (0 : Int32) else nI dp) = nI mo := by
    by_cases q : p = 0
    · exact ⟨0, Nat.zero_le _, by rw [if_pos ((pv_0lt (by omega)).2 q)]; rfl⟩
    · exact ⟨dp, Nat.le_refl _, by rw [if_neg (fun h => q ((pv_0lt (by omega)).1 h))]⟩
  obtain ⟨mo, hmo1, hmo2⟩ := hmo
  have eN : kN_makeBill S (nI t) = pq_mbN S (nI t) (nI (pc_part (KB + 1) mon p w2 lv ac)) (nI mo) := by
    rw [pq_mbN_is, hpN, x1, hA.2.1.1, hmo2]
  have eM : kM_makeBill σ (nI i) (nI (KB + 1)) = pq_mb σ (nI i) (nI (pc_part (KB + 1) mon p w2 lv ac)) (nI mo) := by
    rw [pq_mb_is, ix_ln hi, h42, y1, y2, y3, y7, t5, hA.2.1.2, hX, hpM, hmo2]
  rw [eN, eM]
  generalize hpt : pc_part (KB + 1) mon p w2 lv ac = pt at *
  have e30 : S 0 30 < 50 := by
    rw [hB.1.1]
    exact nI_lt (b := 50) (by omega) (by decide)
  have eB : pq_mbN S (nI t) (nI pt) (nI mo) = mkL (S 0 0) (S 0 1) (S 0 2) 0 (S 0 4) (S 0 5) (S 0 6) (S 0 10) (S 0 11) (S 0 12) (S 0 13) (S 0 14) (S 0 15) (S 0 16) (S 0 20) (S 0 21) (S 0 22) (nI (nb + 1)) (upd (upd (upd (S 1) 1 (nI (w1 + ac))) 2 (nI (w2 + pt))) 3 (nI (w3 + mo))) (S 2) (S 3) (upd (upd (upd (upd (upd (S 4) (5 * nb) (nI t)) (5 * nb + 1) (nI p)) (5 * nb + 2) (nI ac)) (5 * nb + 3) (nI pt)) (5 * nb + 4) (nI mo)) := by
    unfold pq_mbN kB_add
    rw [if_pos (show (mkL (S 0 0) (S 0 1) (S 0 2) 0 (S 0 4) (S 0 5) (S 0 6) (S 0 10) (S 0 11) (S 0 12) (S 0 13) (S 0 14) (S 0 15) (S 0 16) (S 0 20) (S 0 21) (S 0 22) (S 0 30) (upd (upd (upd (S 1) 1 ((S 1 1) + (S 0 3))) 2 ((S 1 2) + (nI pt))) 3 ((S 1 3) + (nI mo))) (S 2) (S 3) (S 4)) 0 30 < 50 from e30)]
    show mkL (S 0 0) (S 0 1) (S 0 2) 0 (S 0 4) (S 0 5) (S 0 6) (S 0 10) (S 0 11) (S 0 12) (S 0 13) (S 0 14) (S 0 15) (S 0 16) (S 0 20) (S 0 21) (S 0 22) (S 0 30 + 1) (upd (upd (upd (S 1) 1 ((S 1 1) + (S 0 3))) 2 ((S 1 2) + (nI pt))) 3 ((S 1 3) + (nI mo))) (S 2) (S 3) (upd (upd (upd (upd (upd (S 4) (((S 0 30) * 5).toNatClampNeg) (nI t)) ((((S 0 30) * 5) + 1).toNatClampNeg) (S 0 1)) ((((S 0 30) * 5) + 2).toNatClampNeg) (S 0 3)) ((((S 0 30) * 5) + 3).toNatClampNeg) (nI pt)) ((((S 0 30) * 5) + 4).toNatClampNeg) (nI mo)) = _
    have k5 : nI nb * 5 = nI (5 * nb) := (pk_mul nb 5).trans (by rw [Nat.mul_comm])
    have kc : ∀ c : Nat, c < 5 → (nI (5 * nb) + nI c).toNatClampNeg = 5 * nb + c := fun c hc => by
      rw [nI_add, nI_clamp (by omega)]
    rw [hB.1.1, k5, nI_clamp (show 5 * nb < 2 ^ 31 by omega), show (nI (5 * nb) + 1).toNatClampNeg = 5 * nb + 1 from kc 1 (by decide), show (nI (5 * nb) + 2).toNatClampNeg = 5 * nb + 2 from kc 2 (by decide), show (nI (5 * nb) + 3).toNatClampNeg = 5 * nb + 3 from kc 3 (by decide), show (nI (5 * nb) + 4).toNatClampNeg = 5 * nb + 4 from kc 4 (by decide), nI_1, x6, x7, x8, x3, x1, nI_add, nI_add, nI_add]
  rw [eB]
  have hat : (60 * nI i + σ 17 (nI i).toNatClampNeg).toNatClampNeg = 60 * i + nb := by
    rw [ix_ln hi, hB.1.2, ix_60 hi nb (by omega)]
  have e14 : pq_mb σ (nI i) (nI pt) (nI mo) 14 = upd (upd (upd (σ 14) (4 * i + 1) (nI (w1 + ac))) (4 * i + 2) (nI (w2 + pt))) (4 * i + 3) (nI (w3 + mo)) := by
    show upd (upd (upd (σ 14) (4 * nI i + 1).toNatClampNeg ((σ 14 (4 * nI i + 1).toNatClampNeg) + (σ 9 (nI i).toNatClampNeg))) (4 * nI i + 2).toNatClampNeg (((upd (σ 14) (4 * nI i + 1).toNatClampNeg ((σ 14 (4 * nI i + 1).toNatClampNeg) + (σ 9 (nI i).toNatClampNeg))) (4 * nI i + 2).toNatClampNeg) + nI pt)) (4 * nI i + 3).toNatClampNeg (((upd (upd (σ 14) (4 * nI i + 1).toNatClampNeg ((σ 14 (4 * nI i + 1).toNatClampNeg) + (σ 9 (nI i).toNatClampNeg))) (4 * nI i + 2).toNatClampNeg (((upd (σ 14) (4 * nI i + 1).toNatClampNeg ((σ 14 (4 * nI i + 1).toNatClampNeg) + (σ 9 (nI i).toNatClampNeg))) (4 * nI i + 2).toNatClampNeg) + nI pt)) (4 * nI i + 3).toNatClampNeg) + nI mo) = _
    rw [h41, h42, h43, ix_ln hi, up_ne (show ¬ 4 * i + 2 = 4 * i + 1 by omega), up_ne (show ¬ 4 * i + 3 = 4 * i + 2 by omega), up_ne (show ¬ 4 * i + 3 = 4 * i + 1 by omega), y6, y7, y8, y3, nI_add, nI_add, nI_add]
  have e18 : pq_mb σ (nI i) (nI pt) (nI mo) 18 = upd (σ 18) (60 * i + nb) (nI t) := by
    show upd (σ 18) (60 * nI i + σ 17 (nI i).toNatClampNeg).toNatClampNeg (σ 0 1) = _
    rw [hat, h01]
  have e19 : pq_mb σ (nI i) (nI pt) (nI mo) 19 = upd (σ 19) (60 * i + nb) (nI p) := by
    show upd (σ 19) (60 * nI i + σ 17 (nI i).toNatClampNeg).toNatClampNeg (σ 7 (nI i).toNatClampNeg) = _
    rw [hat, ix_ln hi, y1]
  have e20 : pq_mb σ (nI i) (nI pt) (nI mo) 20 = upd (σ 20) (60 * i + nb) (nI ac) := by
    show upd (σ 20) (60 * nI i + σ 17 (nI i).toNatClampNeg).toNatClampNeg (σ 9 (nI i).toNatClampNeg) = _
    rw [hat, ix_ln hi, y3]
  have e21 : pq_mb σ (nI i) (nI pt) (nI mo) 21 = upd (σ 21) (60 * i + nb) (nI pt) := by
    show upd (σ 21) (60 * nI i + σ 17 (nI i).toNatClampNeg).toNatClampNeg (nI pt) = _
    rw [hat]
  have e22 : pq_mb σ (nI i) (nI pt) (nI mo) 22 = upd (σ 22) (60 * i + nb) (nI mo) := by
    show upd (σ 22) (60 * nI i + σ 17 (nI i).toNatClampNeg).toNatClampNeg (nI mo) = _
    rw [hat]
  have hgap := pm_due_gap o KB
  have hle := pm_due_mono (d := o) (show KB ≤ KB + 1 by omega)
  refine ⟨rate, mon, rule, how, p, lv, 0, u, w0, w1 + ac, w2 + pt, w3 + mo, dp, cg, nb + 1, nf, bl, fun q => if q = nb then t else bd q, hT, ?_, hA, ?_, hP, hD, ?_⟩
  · refine ⟨⟨x1, y1⟩, ⟨x2, y2⟩, ⟨rfl, ?_⟩, ⟨x4, y4⟩, ⟨?_, ?_⟩, ⟨?_, ?_⟩, ⟨?_, ?_⟩, ⟨?_, ?_⟩⟩
    · show upd (σ 9) (nI i).toNatClampNeg 0 i = _
      rw [ix_ln hi, up_eq]
      rfl
    · show upd (upd (upd (S 1) 1 _) 2 _) 3 _ 0 = _
      rw [up_ne (by decide), up_ne (by decide), up_ne (by decide), x5]
    · rw [e14, up_ne (by omega), up_ne (by omega), up_ne (by omega), y5]
    · show upd (upd (upd (S 1) 1 _) 2 _) 3 _ 1 = _
      rw [up_ne (by decide), up_ne (by decide), up_eq]
    · rw [e14, up_ne (by omega), up_ne (by omega), up_eq]
    · show upd (upd (upd (S 1) 1 _) 2 _) 3 _ 2 = _
      rw [up_ne (by decide), up_eq]
    · rw [e14, up_ne (by omega), up_eq]
    · show upd (upd (upd (S 1) 1 _) 2 _) 3 _ 3 = _
      rw [up_eq]
    · rw [e14, up_eq]
  · refine ⟨⟨rfl, ?_⟩, fun q hq => ?_⟩
    · show upd (σ 17) (nI i).toNatClampNeg ((σ 17 (nI i).toNatClampNeg) + 1) i = _
      rw [ix_ln hi, up_eq, hB.1.2, nI_1]
    · rw [e18, e19, e20, e21, e22]
      show _ = nI (if q = nb then t else bd q) ∧ upd (upd (upd (upd (upd (S 4) (5 * nb) (nI t)) (5 * nb + 1) (nI p)) (5 * nb + 2) (nI ac)) (5 * nb + 3) (nI pt)) (5 * nb + 4) (nI mo) (5 * q) = _ ∧ upd (upd (upd (upd (upd (S 4) (5 * nb) (nI t)) (5 * nb + 1) (nI p)) (5 * nb + 2) (nI ac)) (5 * nb + 3) (nI pt)) (5 * nb + 4) (nI mo) (5 * q + 1) = _ ∧ upd (upd (upd (upd (upd (S 4) (5 * nb) (nI t)) (5 * nb + 1) (nI p)) (5 * nb + 2) (nI ac)) (5 * nb + 3) (nI pt)) (5 * nb + 4) (nI mo) (5 * q + 2) = _ ∧ upd (upd (upd (upd (upd (S 4) (5 * nb) (nI t)) (5 * nb + 1) (nI p)) (5 * nb + 2) (nI ac)) (5 * nb + 3) (nI pt)) (5 * nb + 4) (nI mo) (5 * q + 3) = _ ∧ upd (upd (upd (upd (upd (S 4) (5 * nb) (nI t)) (5 * nb + 1) (nI p)) (5 * nb + 2) (nI ac)) (5 * nb + 3) (nI pt)) (5 * nb + 4) (nI mo) (5 * q + 4) = _
      by_cases e : q = nb
      · subst e
        rw [if_pos rfl, up_eq (σ 18), up_eq (σ 19), up_eq (σ 20), up_eq (σ 21), up_eq (σ 22)]
        refine ⟨rfl, ?_, ?_, ?_, ?_, ?_⟩
        · rw [up_ne (by omega), up_ne (by omega), up_ne (by omega), up_ne (by omega), up_eq]
        · rw [up_ne (by omega), up_ne (by omega), up_ne (by omega), up_eq]
        · rw [up_ne (by omega), up_ne (by omega), up_eq]
        · rw [up_ne (by omega), up_eq]
        · rw [up_eq]
      · rw [if_neg e]
        have hq2 := hB.2 q (by omega)
        have ne60 : ¬ 60 * i + q = 60 * i + nb := by omega
        rw [up_ne ne60, up_ne ne60, up_ne ne60, up_ne ne60, up_ne ne60]
        refine ⟨hq2.1, ?_, ?_, ?_, ?_, ?_⟩
        · rw [up_ne (by omega), up_ne (by omega), up_ne (by omega), up_ne (by omega), up_ne (by omega)]
          exact hq2.2.1
        · rw [up_ne (by omega), up_ne (by omega), up_ne (by omega), up_ne (by omega), up_ne (by omega)]
          exact hq2.2.2.1
        · rw [up_ne (by omega), up_ne (by omega), up_ne (by omega), up_ne (by omega), up_ne (by omega)]
          exact hq2.2.2.2.1
        · rw [up_ne (by omega), up_ne (by omega), up_ne (by omega), up_ne (by omega), up_ne (by omega)]
          exact hq2.2.2.2.2.1
        · rw [up_ne (by omega), up_ne (by omega), up_ne (by omega), up_ne (by omega), up_ne (by omega)]
          exact hq2.2.2.2.2.2
  · refine ⟨⟨n1, n2, n3, n4, by omega, by omega⟩, ⟨n7, by omega, by omega⟩, ⟨by omega, a2, a3, a4⟩, by omega, by omega, fun q hq => ?_, fun q r hqr hr => ?_, fun _ _ => by omega⟩
    · show (if q = nb then t else bd q) ≤ _
      by_cases e : q = nb
      · rw [if_pos e]
        omega
      · rw [if_neg e]
        have := n12 q (by omega)
        omega
    · show (if q = nb then t else bd q) + 28 ≤ (if r = nb then t else bd r)
      rw [if_neg (by omega)]
      by_cases e : r = nb
      · rw [if_pos e]
        have := n12 q (by omega)
        omega
      · rw [if_neg e]
        exact n13 q r hqr (by omega)
set_option maxRecDepth 4000 in
theorem pf_oth_mb {σ : KS} {i nb : Nat} {part more : Int32} (hi : i < 3) (h17 : σ 17 i = nI nb) (hnb : nb < 60) : pf_oth i σ (pq_mb σ (nI i) part more) := fun j hj => by
  have hat : (60 * nI i + σ 17 (nI i).toNatClampNeg).toNatClampNeg = 60 * i + nb := by
    rw [ix_ln hi, h17, ix_60 hi nb (by omega)]
  have h42 : (4 * nI i + 2).toNatClampNeg = 4 * i + 2 := ix_4 hi 2 (by decide)
  have h41 : (4 * nI i + 1).toNatClampNeg = 4 * i + 1 := ix_4 hi 1 (by decide)
  have h43 : (4 * nI i + 3).toNatClampNeg = 4 * i + 3 := ix_4 hi 3 (by decide)
  refine ⟨⟨rfl, rfl, rfl, rfl, rfl, rfl, rfl, rfl, ?_, rfl, rfl, rfl, rfl, rfl, ?_⟩, fun w hw => ?_, fun _ _ => rfl, fun q hq => ⟨?_, ?_, ?_, ?_, ?_⟩⟩
  · show upd (σ 9) (nI i).toNatClampNeg _ j = _
    rw [ix_ln hi, up_ne hj]
  · show upd (σ 17) (nI i).toNatClampNeg _ j = _
    rw [ix_ln hi, up_ne hj]
  · show upd (upd (upd (σ 14) (4 * nI i + 1).toNatClampNeg _) (4 * nI i + 2).toNatClampNeg _) (4 * nI i + 3).toNatClampNeg _ (4 * j + w) = _
    rw [h41, h42, h43, up_ne (by omega), up_ne (by omega), up_ne (by omega)]
  · show upd (σ 18) (60 * nI i + σ 17 (nI i).toNatClampNeg).toNatClampNeg _ (60 * j + q) = _
    rw [hat, up_ne (by omega)]
  · show upd (σ 19) (60 * nI i + σ 17 (nI i).toNatClampNeg).toNatClampNeg _ (60 * j + q) = _
    rw [hat, up_ne (by omega)]
  · show upd (σ 20) (60 * nI i + σ 17 (nI i).toNatClampNeg).toNatClampNeg _ (60 * j + q) = _
    rw [hat, up_ne (by omega)]
  · show upd (σ 21) (60 * nI i + σ 17 (nI i).toNatClampNeg).toNatClampNeg _ (60 * j + q) = _
    rw [hat, up_ne (by omega)]
  · show upd (σ 22) (60 * nI i + σ 17 (nI i).toNatClampNeg).toNatClampNeg _ (60 * j + q) = _
    rw [hat, up_ne (by omega)]
set_option maxRecDepth 4000 in
theorem rl_weak {S σ : KS} {i o K t : Nat} (h : rl S σ i o (K + 1) K t) : rl S σ i o (K + 1) (K + 1) t := by
  obtain ⟨rate, mon, rule, how, p, lv, ac, u, w0, w1, w2, w3, dp, cg, nb, nf, bl, bd, hT, hM, hA, hB, hP, hD, n1, n2, n3, n4, n5, n6, n7⟩ := h
  exact ⟨rate, mon, rule, how, p, lv, ac, u, w0, w1, w2, w3, dp, cg, nb, nf, bl, bd, hT, hM, hA, hB, hP, hD, n1, n2, n3, by omega, n5, fun q hq => Nat.le_trans (n6 q hq) (pm_due_mono (by omega)), n7⟩
set_option maxRecDepth 4000 in
theorem rl_end {S σ : KS} {i o K t : Nat} (hi : i < 3) (h : rl S σ i o (K + 1) K t) (ht : t = pm_due o (K + 1)) (h01 : σ 0 1 = nI t) (hK : K + 1 ≤ 49) : (pq_endN S (nI t)).1 = (pq_end σ (nI i) (nI (K + 1))).1 ∧ rl (pq_endN S (nI t)).2 (pq_end σ (nI i) (nI (K + 1))).2 i o (K + 1) (K + 1) t ∧ pf_oth i σ (pq_end σ (nI i) (nI (K + 1))).2 := by
  have hb := rl_bill hi h ht h01 hK
  have hw := rl_weak h
  obtain ⟨rate, mon, rule, how, p, lv, ac, u, w0, w1, w2, w3, dp, cg, nb, nf, bl, bd, hT, hM, hA, hB, hP, hD, hN⟩ := h
  have hoth : pf_oth i σ (kM_makeBill σ (nI i) (nI (K + 1))) := by
    rw [pq_mb_is]
    exact pf_oth_mb hi hB.1.2 (by have := hN.2.2.2.2.1; omega)
  unfold pq_endN pq_end
  rw [ix_ln hi, hM.1.1, hM.1.2, hM.2.2.1.1, hM.2.2.1.2]
  have hp := hN.1.1
  have hac : ac < 2 ^ 31 := by
    have h5 := hN.1.2.2.2.2.1
    have h4 := hN.1.2.2.2.1
    have hle := pm_due_le o (K + 1)
    have := hT.2.2.2.2.2.2.2.2
    have : u - o ≤ 31 * 50 := by omega
    omega
  by_cases q : p = 0
  · rw [if_neg (show ¬ (0 : Int32) < nI p from nI_nlt (a := 0) (by omega) (by omega)), if_pos (show nI p = 0 by rw [q]; rfl)]
    by_cases q2 : ac = 0
    · rw [if_neg (show ¬ (0 : Int32) < nI ac from nI_nlt (a := 0) (by omega) (by omega)), if_pos (show nI ac = 0 by rw [q2]; rfl)]
      exact ⟨rfl, hw, pf_oth_refl i σ⟩
    · rw [if_pos (show (0 : Int32) < nI ac from nI_lt (a := 0) (by omega) hac), if_neg (nI_ne0 (by omega) hac)]
      exact ⟨rfl, hb, hoth⟩
  · rw [if_pos (show (0 : Int32) < nI p from nI_lt (a := 0) (by omega) (by omega)), if_neg (nI_ne0 (by omega) (by omega))]
    exact ⟨rfl, hb, hoth⟩
set_option maxRecDepth 4000 in
/-- a whole day of a loan: both sides make a bill or none, and the relation holds the day after -/
theorem rl_day {S σ : KS} {i o K t : Nat} (hi : i < 3) (ht : t < 1500) (h : rl S σ i o K K t) (h01 : σ 0 1 = nI (t + 1)) (hot : o ≤ t) (hK1 : pm_due o K ≤ t) (hK2 : t < pm_due o (K + 1)) : ∃ K', (kN_beginDay S (nI (t + 1))).1 = (kM_dayOfLoan σ (nI i)).1 ∧ rl (kN_beginDay S (nI (t + 1))).2 (kM_dayOfLoan σ (nI i)).2 i o K' K' (t + 1) ∧ pm_due o K' ≤ t + 1 ∧ t + 1 < pm_due o (K' + 1) ∧ pf_oth i σ (kM_dayOfLoan σ (nI i)).2 := by
  obtain ⟨S1, σ1, e1, e2, h1, g01, _, hoth⟩ := rl_step1 hi ht h h01 hK1
  rw [e1, e2]
  have h1c := h1
  obtain ⟨rate, mon, rule, how, p, lv, ac, u, w0, w1, w2, w3, dp, cg, nb, nf, bl, bd, hT, hM, hA, hB, hP, hD, hN⟩ := h1c
  have ho : σ1 1 (nI i).toNatClampNeg = nI o := by
    rw [ix_ln hi]
    exact hT.2.2.2.2.2.2.2.1
  have hw := pf_whichDue g01 ho (by omega) (by omega) (show pm_due o K < t + 1 by omega) (show t + 1 ≤ pm_due o (K + 1) by omega)
  rw [hw]
  have h6 := hD.2
  unfold pq_restN pq_rest
  rw [h6, hD.1, nI_1]
  by_cases e : t + 1 = pm_due o (K + 1)
  · have hK49 : K + 1 ≤ 49 := pc_K (o := o) (K := K + 1) (t := t + 1) (by omega) (by omega)
    rw [if_pos e, if_pos (show nI (t + 1) = nI (pm_due o (K + 1)) by rw [e]), if_neg (nI_ne0 (by omega) (by omega)), (pe_div12 (n := K + 1) (by omega)).2]
    have hg := pm_due_gap o (K + 1)
    by_cases q : (K + 1) % 12 = 0
    · rw [if_pos (show nI ((K + 1) % 12) = 0 by rw [q]; rfl), if_pos (show nI ((K + 1) % 12) = 0 by rw [q]; rfl)]
      have h2 := rl_chg hi h1 (by omega) q
      have h3 := rl_accr hi h2 (by omega) g01
      have h4 := rl_end hi h3 e g01 hK49
      exact ⟨K + 1, h4.1, h4.2.1, by omega, by omega, pf_oth_trans hoth (pf_oth_trans (pf_oth_chg hi) (pf_oth_trans (pf_oth_accr hi) h4.2.2))⟩
    · rw [if_neg (nI_ne0 (by omega) (by omega)), if_neg (nI_ne0 (by omega) (by omega))]
      have h2 := rl_next h1 (by omega)
      have h3 := rl_accr hi h2 (by omega) g01
      have h4 := rl_end hi h3 e g01 hK49
      exact ⟨K + 1, h4.1, h4.2.1, by omega, by omega, pf_oth_trans hoth (pf_oth_trans (pf_oth_accr hi) h4.2.2)⟩
  · have hdl := pm_due_le o (K + 1)
    have ho2 := hT.2.2.2.2.2.2.2.2
    have hK49 : K ≤ 49 := pc_K (o := o) (t := t) (by omega) hK1
    rw [if_neg e, if_neg (fun h => e ((nI_inj (by omega) (by omega)).1 h)), if_pos rfl]
    exact ⟨K, rfl, h1, by omega, by omega, hoth⟩
