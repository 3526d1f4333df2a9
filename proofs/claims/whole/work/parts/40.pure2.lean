/-! pure: the class's numbers and the reference's are one -/
def pe_r4 (r : Int32) : Prop := r = 0 ∨ r = 1 ∨ r = 2 ∨ r = 3
theorem pe_rounded {top bot : Int64} {how : Int32} (hh : pe_r4 how) (hb : (0 : Int32) < lg_cmp bot 0) : kC_rounded top bot how = (kM_rounded top bot how).toInt32 := by
  unfold kC_rounded kM_rounded
  rw [if_pos hb]
  have n01 : ¬ (0 : Int32) = 1 := by decide
  have n02 : ¬ (0 : Int32) = 2 := by decide
  have n03 : ¬ (0 : Int32) = 3 := by decide
  have n10 : ¬ (1 : Int32) = 0 := by decide
  have n20 : ¬ (2 : Int32) = 0 := by decide
  have n21 : ¬ (2 : Int32) = 1 := by decide
  have n30 : ¬ (3 : Int32) = 0 := by decide
  have n31 : ¬ (3 : Int32) = 1 := by decide
  have n32 : ¬ (3 : Int32) = 2 := by decide
  rcases hh with rfl | rfl | rfl | rfl
  · rw [if_pos rfl, if_neg n01, if_neg n02, if_neg n03]
  · rw [if_neg n10, if_pos rfl, if_pos rfl]
    split <;> rfl
  · rw [if_neg n20, if_neg n21, if_neg n21, if_pos rfl, if_pos rfl]
    split <;> rfl
  · rw [if_neg n30, if_neg n31, if_neg n31, if_neg n32, if_neg n32, if_pos rfl]
    repeat' split
    all_goals rfl
theorem pe_bottom (rule : Int32) : (kS_bottom rule).toInt64 = kM_under rule := by
  unfold kS_bottom kM_under
  split
  · decide
  · split <;> decide
theorem pe_bpos (rule : Int32) : (0 : Int32) < lg_cmp (100000 * kM_under rule) 0 := by
  unfold kM_under
  split
  · decide
  · split <;> decide
theorem pe_interest {amount rate x y rule r : Int32} (hr : pe_r4 r) (hs : kM_span rule x y = (kS_top rule x y).toInt64) : kC_interestOn amount rate (kS_top rule x y) rule r = kM_interestOn amount rate x y rule r := by
  unfold kC_interestOn kM_interestOn
  rw [pe_bottom, hs]
  exact pe_rounded hr (pe_bpos rule)
theorem pe_firstDayOf {m : Nat} (h : m < 100000) : kY_firstDayOf (nI m) = nI (pm_first m) := by
  unfold kY_firstDayOf pm_first
  rw [show nI m + 10 = nI (m + 10) from nI_add m 10]
  rw [show nI (m + 10) / 12 = nI ((m + 10) / 12) from pk_div (a := m + 10) (d := 12) (by omega) (by decide) (by decide)]
  have hrem : nI (m + 10) - nI ((m + 10) / 12) * 12 = nI ((m + 10) % 12) := by
    rw [show nI ((m + 10) / 12) * 12 = nI ((m + 10) / 12 * 12) from pk_mul _ 12, pk_sub (by omega)]
    congr 1
    omega
  rw [hrem]
  rw [show (1461 : Int32) * nI ((m + 10) / 12) = nI (1461 * ((m + 10) / 12)) from pk_mul 1461 _, show nI (1461 * ((m + 10) / 12)) + 3 = nI (1461 * ((m + 10) / 12) + 3) from nI_add _ 3]
  rw [show nI (1461 * ((m + 10) / 12) + 3) / 4 = nI ((1461 * ((m + 10) / 12) + 3) / 4) from pk_div (d := 4) (by omega) (by decide) (by decide)]
  rw [show (153 : Int32) * nI ((m + 10) % 12) = nI (153 * ((m + 10) % 12)) from pk_mul 153 _, show nI (153 * ((m + 10) % 12)) + 2 = nI (153 * ((m + 10) % 12) + 2) from nI_add _ 2]
  rw [show nI (153 * ((m + 10) % 12) + 2) / 5 = nI ((153 * ((m + 10) % 12) + 2) / 5) from pk_div (d := 5) (by omega) (by decide) (by decide)]
  rw [nI_add]
  exact pk_sub (b := 306) (by omega)
theorem pe_monthOf {d : Nat} (h : d < 100000) : kY_monthOf (nI d) = nI (pm_month d) := by
  unfold kY_monthOf pm_month
  rw [show nI d + 306 = nI (d + 306) from nI_add d 306, show (4 : Int32) * nI (d + 306) = nI (4 * (d + 306)) from pk_mul 4 _]
  rw [show nI (4 * (d + 306)) / 1461 = nI (4 * (d + 306) / 1461) from pk_div (d := 1461) (by omega) (by decide) (by decide)]
  generalize hY : 4 * (d + 306) / 1461 = Y
  rw [show (12 : Int32) * nI Y = nI (12 * Y) from pk_mul 12 Y, show (1461 : Int32) * nI Y = nI (1461 * Y) from pk_mul 1461 Y, show nI (1461 * Y) + 3 = nI (1461 * Y + 3) from nI_add _ 3]
  rw [show nI (1461 * Y + 3) / 4 = nI ((1461 * Y + 3) / 4) from pk_div (d := 4) (by omega) (by decide) (by decide)]
  rw [pk_sub (show (1461 * Y + 3) / 4 ≤ d + 306 by omega)]
  rw [show (5 : Int32) * nI (d + 306 - (1461 * Y + 3) / 4) = nI (5 * (d + 306 - (1461 * Y + 3) / 4)) from pk_mul 5 _, show nI (5 * (d + 306 - (1461 * Y + 3) / 4)) + 2 = nI (5 * (d + 306 - (1461 * Y + 3) / 4) + 2) from nI_add _ 2]
  rw [show nI (5 * (d + 306 - (1461 * Y + 3) / 4) + 2) / 153 = nI ((5 * (d + 306 - (1461 * Y + 3) / 4) + 2) / 153) from pk_div (d := 153) (by omega) (by decide) (by decide)]
  rw [nI_add]
  refine pk_sub (b := 10) ?_
  rcases Nat.eq_zero_or_pos Y with q | q
  · subst q
    omega
  · omega
theorem pe_month_le {d : Nat} : pm_first (pm_month d) ≤ d := (pm_month_is d).1
theorem pm_month_lt {d : Nat} (h : d < 90000) : pm_month d < 90000 := by
  have h1 := (pm_month_is d).1
  have h2 : ∀ m, 28 * m ≤ pm_first m + 28 := fun m => by
    induction m with
    | zero => omega
    | succ m ih =>
      have := pm_first_succ m
      omega
  have := h2 (pm_month d)
  omega
theorem pe_number {d : Nat} (h : d < 90000) : kY_numberInMonth (nI d) = nI (pm_num d) := by
  unfold kY_numberInMonth pm_num
  rw [pe_monthOf (by omega), pe_firstDayOf (by have := pm_month_lt h; omega), pk_sub pe_month_le]
  exact nI_add _ 1
