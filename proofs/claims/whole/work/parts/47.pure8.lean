/-! pure: a day of a loan, in steps -/
def pq_fee (σ : KS) (ln : Int32) : KS := mkM (σ 0 0) (σ 0 1) (σ 0 2) (σ 0 3) (σ 0 4) (σ 0 5) (σ 1) (σ 2) (σ 3) (σ 4) (σ 5) (σ 6) (σ 7) (σ 8) (σ 9) (σ 10) (σ 11) (σ 12) (σ 13) (upd (σ 14) ((4 * ln).toNatClampNeg) ((σ 14 ((4 * ln).toNatClampNeg)) + (aM_dayOfLoan_r_100 σ ln).toInt32)) (σ 15) (σ 16) (σ 17) (σ 18) (σ 19) (σ 20) (σ 21) (σ 22)
def pq_chg (σ : KS) (ln : Int32) : KS := mkM (σ 0 0) (σ 0 1) (σ 0 2) (σ 0 3) (σ 0 4) (σ 0 5) (σ 1) (σ 2) (σ 3) (σ 4) (σ 5) (σ 6) (σ 7) (σ 8) (σ 9) (σ 10) (upd (σ 11) ln.toNatClampNeg ((σ 11 ln.toNatClampNeg) - (σ 12 ln.toNatClampNeg))) (σ 12) (upd (σ 13) ln.toNatClampNeg (kM_twelfth (if (0 : Int32) ≤ ((upd (σ 11) ln.toNatClampNeg ((σ 11 ln.toNatClampNeg) - (σ 12 ln.toNatClampNeg))) ln.toNatClampNeg) then σ 12 ln.toNatClampNeg else (σ 12 ln.toNatClampNeg) - ((upd (σ 11) ln.toNatClampNeg ((σ 11 ln.toNatClampNeg) - (σ 12 ln.toNatClampNeg))) ln.toNatClampNeg)))) (σ 14) (σ 15) (σ 16) (σ 17) (σ 18) (σ 19) (σ 20) (σ 21) (σ 22)
def pq_end (σ : KS) (ln k : Int32) : Int32 × KS := if (σ 7 ln.toNatClampNeg) = (0 : Int32) then (if (σ 9 ln.toNatClampNeg) = (0 : Int32) then (0, σ) else (1, kM_makeBill σ ln k)) else (1, kM_makeBill σ ln k)
def pq_rest (σ : KS) (ln k : Int32) : Int32 × KS := if k = (0 : Int32) then (0, σ) else (if (k - k / 12 * 12) = (0 : Int32) then pq_end (kM_accrue (pq_chg σ ln) ln) ln k else pq_end (kM_accrue σ ln) ln k)
def pq_late (σ : KS) (ln : Int32) : Int64 := (((σ 14 (((4 * ln) + 1).toNatClampNeg)).toInt64) + ((σ 14 (((4 * ln) + 2).toNatClampNeg)).toInt64)) + ((σ 14 (((4 * ln) + 3).toNatClampNeg)).toInt64)
set_option maxRecDepth 4000 in
theorem pq_day (σ : KS) (ln : Int32) : kM_dayOfLoan σ ln = if kM_billedOn σ ln ((σ 0 1) - 10) = (0 : Int32) then pq_rest σ ln (kM_whichDue σ ln) else (if (lg_cmp (pq_late σ ln) 0) ≤ (0 : Int32) then pq_rest σ ln (kM_whichDue σ ln) else pq_rest (pq_fee σ ln) ln (kM_whichDue (pq_fee σ ln) ln)) := by
  unfold kM_dayOfLoan
  refine ite_congr rfl (fun _ => ?_) (fun _ => ite_congr rfl (fun _ => ?_) (fun _ => ?_))
  · unfold pq_rest
    exact ite_congr rfl (fun _ => rfl) (fun _ => ite_congr rfl (fun _ => rfl) (fun _ => rfl))
  · unfold pq_rest
    exact ite_congr rfl (fun _ => rfl) (fun _ => ite_congr rfl (fun _ => rfl) (fun _ => rfl))
  · unfold pq_rest
    exact ite_congr rfl (fun _ => rfl) (fun _ => ite_congr rfl (fun _ => rfl) (fun _ => rfl))
def pq_next (S : KS) : KS := mkL (S 0 0) (S 0 1) (S 0 2) (S 0 3) (S 0 4) ((S 0 5) + 1) (kT_dueDay S (((S 0 5) + 1) + 1)) (S 0 10) (S 0 11) (S 0 12) (S 0 13) (S 0 14) (S 0 15) (S 0 16) (S 0 20) (S 0 21) (S 0 22) (S 0 30) (S 1) (S 2) (S 3) (S 4)
def pq_endN (S : KS) (t : Int32) : Int32 × KS := if (0 : Int32) < S 0 1 then (1, kN_makeBill S t) else (if (0 : Int32) < S 0 3 then (1, kN_makeBill S t) else (0, S))
def pq_restN (S : KS) (t : Int32) : Int32 × KS := if t = S 0 6 then (if (((S 0 5) + 1) - ((S 0 5) + 1) / 12 * 12) = (0 : Int32) then pq_endN (kN_accrue (kA_payCharge (pq_next S)) t) t else pq_endN (kN_accrue (pq_next S) t) t) else (0, S)
set_option maxRecDepth 4000 in
theorem pq_begin (S : KS) (t : Int32) : kN_beginDay S t = if kB_latestIsOf S (t - 10) = (0 : Int32) then pq_restN S t else pq_restN (kN_addLateFee S) t := by
  unfold kN_beginDay
  refine ite_congr rfl (fun _ => ?_) (fun _ => ?_)
  · unfold pq_restN
    exact ite_congr rfl (fun _ => ite_congr rfl (fun _ => rfl) (fun _ => rfl)) (fun _ => rfl)
  · unfold pq_restN
    exact ite_congr rfl (fun _ => ite_congr rfl (fun _ => rfl) (fun _ => rfl)) (fun _ => rfl)
