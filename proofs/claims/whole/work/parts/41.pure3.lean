/-! pure: the reference's calendar -/
theorem pe_mod4 {n : Nat} (h : n < 2 ^ 30) : nI n - nI n / 4 * 4 = nI (n % 4) := by
  rw [show nI n / 4 = nI (n / 4) from pk_div (d := 4) (by omega) (by decide) (by decide), show nI (n / 4) * 4 = nI (n / 4 * 4) from pk_mul _ 4, pk_sub (by omega)]
  congr 1
  omega
theorem pe_daysOf {y : Nat} (h : y < 10000) : kM_daysOf (nI (2000 + y)) = nI (pm_ylen y) := by
  unfold kM_daysOf pm_ylen
  rw [pe_mod4 (by omega)]
  by_cases h4 : y % 4 = 0
  · have e : nI ((2000 + y) % 4) = 0 := by rw [show (2000 + y) % 4 = 0 by omega]; rfl
    rw [if_pos h4, if_pos e]
    rfl
  · have e : ¬ nI ((2000 + y) % 4) = (0 : Int32) := nI_ne0 (by omega) (by omega)
    rw [if_neg h4, if_neg e]
    rfl
theorem pe_daysIn {y m : Nat} (h : y < 10000) (hm : m < 12) : kM_daysIn (nI (2000 + y)) (nI (m + 1)) = nI (pm_mlen y m) := by
  unfold kM_daysIn pm_mlen
  rw [pe_daysOf h]
  have hy : 337 ≤ pm_ylen y := by unfold pm_ylen; split <;> omega
  have e2 : nI (pm_ylen y) - 337 = nI (pm_ylen y - 337) := pk_sub (b := 337) hy
  rw [e2]
  have hc : m = 0 ∨ m = 1 ∨ m = 2 ∨ m = 3 ∨ m = 4 ∨ m = 5 ∨ m = 6 ∨ m = 7 ∨ m = 8 ∨ m = 9 ∨ m = 10 ∨ m = 11 := by omega
  rcases hc with rfl | rfl | rfl | rfl | rfl | rfl | rfl | rfl | rfl | rfl | rfl | rfl
  · rw [if_neg (show ¬ nI (0 + 1) = (2 : Int32) by decide), if_neg (show ¬ nI (0 + 1) = (4 : Int32) by decide), if_neg (show ¬ nI (0 + 1) = (6 : Int32) by decide), if_neg (show ¬ nI (0 + 1) = (9 : Int32) by decide), if_neg (show ¬ nI (0 + 1) = (11 : Int32) by decide), if_neg (show ¬ (0 : Nat) = 1 by decide), if_neg (show ¬ ((0 : Nat) = 3 ∨ (0 : Nat) = 5 ∨ (0 : Nat) = 8 ∨ (0 : Nat) = 10) by decide)]
    rfl
  · rw [if_pos (show nI (1 + 1) = (2 : Int32) by decide), if_pos (show (1 : Nat) = 1 from rfl)]
  · rw [if_neg (show ¬ nI (2 + 1) = (2 : Int32) by decide), if_neg (show ¬ nI (2 + 1) = (4 : Int32) by decide), if_neg (show ¬ nI (2 + 1) = (6 : Int32) by decide), if_neg (show ¬ nI (2 + 1) = (9 : Int32) by decide), if_neg (show ¬ nI (2 + 1) = (11 : Int32) by decide), if_neg (show ¬ (2 : Nat) = 1 by decide), if_neg (show ¬ ((2 : Nat) = 3 ∨ (2 : Nat) = 5 ∨ (2 : Nat) = 8 ∨ (2 : Nat) = 10) by decide)]
    rfl
  · rw [if_neg (show ¬ nI (3 + 1) = (2 : Int32) by decide), if_pos (show nI (3 + 1) = (4 : Int32) by decide), if_neg (show ¬ (3 : Nat) = 1 by decide), if_pos (show (3 : Nat) = 3 ∨ (3 : Nat) = 5 ∨ (3 : Nat) = 8 ∨ (3 : Nat) = 10 by decide)]
    rfl
  · rw [if_neg (show ¬ nI (4 + 1) = (2 : Int32) by decide), if_neg (show ¬ nI (4 + 1) = (4 : Int32) by decide), if_neg (show ¬ nI (4 + 1) = (6 : Int32) by decide), if_neg (show ¬ nI (4 + 1) = (9 : Int32) by decide), if_neg (show ¬ nI (4 + 1) = (11 : Int32) by decide), if_neg (show ¬ (4 : Nat) = 1 by decide), if_neg (show ¬ ((4 : Nat) = 3 ∨ (4 : Nat) = 5 ∨ (4 : Nat) = 8 ∨ (4 : Nat) = 10) by decide)]
    rfl
  · rw [if_neg (show ¬ nI (5 + 1) = (2 : Int32) by decide), if_neg (show ¬ nI (5 + 1) = (4 : Int32) by decide), if_pos (show nI (5 + 1) = (6 : Int32) by decide), if_neg (show ¬ (5 : Nat) = 1 by decide), if_pos (show (5 : Nat) = 3 ∨ (5 : Nat) = 5 ∨ (5 : Nat) = 8 ∨ (5 : Nat) = 10 by decide)]
    rfl
  · rw [if_neg (show ¬ nI (6 + 1) = (2 : Int32) by decide), if_neg (show ¬ nI (6 + 1) = (4 : Int32) by decide), if_neg (show ¬ nI (6 + 1) = (6 : Int32) by decide), if_neg (show ¬ nI (6 + 1) = (9 : Int32) by decide), if_neg (show ¬ nI (6 + 1) = (11 : Int32) by decide), if_neg (show ¬ (6 : Nat) = 1 by decide), if_neg (show ¬ ((6 : Nat) = 3 ∨ (6 : Nat) = 5 ∨ (6 : Nat) = 8 ∨ (6 : Nat) = 10) by decide)]
    rfl
  · rw [if_neg (show ¬ nI (7 + 1) = (2 : Int32) by decide), if_neg (show ¬ nI (7 + 1) = (4 : Int32) by decide), if_neg (show ¬ nI (7 + 1) = (6 : Int32) by decide), if_neg (show ¬ nI (7 + 1) = (9 : Int32) by decide), if_neg (show ¬ nI (7 + 1) = (11 : Int32) by decide), if_neg (show ¬ (7 : Nat) = 1 by decide), if_neg (show ¬ ((7 : Nat) = 3 ∨ (7 : Nat) = 5 ∨ (7 : Nat) = 8 ∨ (7 : Nat) = 10) by decide)]
    rfl
  · rw [if_neg (show ¬ nI (8 + 1) = (2 : Int32) by decide), if_neg (show ¬ nI (8 + 1) = (4 : Int32) by decide), if_neg (show ¬ nI (8 + 1) = (6 : Int32) by decide), if_pos (show nI (8 + 1) = (9 : Int32) by decide), if_neg (show ¬ (8 : Nat) = 1 by decide), if_pos (show (8 : Nat) = 3 ∨ (8 : Nat) = 5 ∨ (8 : Nat) = 8 ∨ (8 : Nat) = 10 by decide)]
    rfl
  · rw [if_neg (show ¬ nI (9 + 1) = (2 : Int32) by decide), if_neg (show ¬ nI (9 + 1) = (4 : Int32) by decide), if_neg (show ¬ nI (9 + 1) = (6 : Int32) by decide), if_neg (show ¬ nI (9 + 1) = (9 : Int32) by decide), if_neg (show ¬ nI (9 + 1) = (11 : Int32) by decide), if_neg (show ¬ (9 : Nat) = 1 by decide), if_neg (show ¬ ((9 : Nat) = 3 ∨ (9 : Nat) = 5 ∨ (9 : Nat) = 8 ∨ (9 : Nat) = 10) by decide)]
    rfl
  · rw [if_neg (show ¬ nI (10 + 1) = (2 : Int32) by decide), if_neg (show ¬ nI (10 + 1) = (4 : Int32) by decide), if_neg (show ¬ nI (10 + 1) = (6 : Int32) by decide), if_neg (show ¬ nI (10 + 1) = (9 : Int32) by decide), if_pos (show nI (10 + 1) = (11 : Int32) by decide), if_neg (show ¬ (10 : Nat) = 1 by decide), if_pos (show (10 : Nat) = 3 ∨ (10 : Nat) = 5 ∨ (10 : Nat) = 8 ∨ (10 : Nat) = 10 by decide)]
    rfl
  · rw [if_neg (show ¬ nI (11 + 1) = (2 : Int32) by decide), if_neg (show ¬ nI (11 + 1) = (4 : Int32) by decide), if_neg (show ¬ nI (11 + 1) = (6 : Int32) by decide), if_neg (show ¬ nI (11 + 1) = (9 : Int32) by decide), if_neg (show ¬ nI (11 + 1) = (11 : Int32) by decide), if_neg (show ¬ (11 : Nat) = 1 by decide), if_neg (show ¬ ((11 : Nat) = 3 ∨ (11 : Nat) = 5 ∨ (11 : Nat) = 8 ∨ (11 : Nat) = 10) by decide)]
    rfl
theorem pe_fm (day : Int32) {d y : Nat} (hy : y < 10000) (hd : d < pm_first (12 * (y + 1))) : ∀ (n a m : Nat), m < 12 → a + pm_first (12 * y + m) = d → a ≤ n → a < 100000 → lf_fm day (n + 1) (nI a) (nI (2000 + y)) (nI (m + 1)) = (nI (2000 + pm_month d / 12), nI (pm_month d % 12 + 1), nI (pm_num d)) := by
  intro n
  induction n with
  | zero =>
    intro a m hm ha hn hb
    have h1 := pm_mlen_in y m
    have h2 := pm_first_msucc y m hm
    have hmo : pm_month d = 12 * y + m := pm_is_uniq (pm_month_is d) ⟨by omega, by omega⟩
    have e1 : pm_month d / 12 = y := by omega
    have e2 : pm_month d % 12 = m := by omega
    unfold lf_fm
    rw [pe_daysIn hy hm, if_pos (nI_lt (by omega) (by omega)), e1, e2]
    unfold pm_num
    rw [hmo, nI_1]
    rw [show a + 1 = d - pm_first (12 * y + m) + 1 by omega]
  | succ n ih =>
    intro a m hm ha hn hb
    have h1 := pm_mlen_in y m
    have h2 := pm_first_msucc y m hm
    unfold lf_fm
    rw [pe_daysIn hy hm]
    by_cases hl : a < pm_mlen y m
    · have hmo : pm_month d = 12 * y + m := pm_is_uniq (pm_month_is d) ⟨by omega, by omega⟩
      have e1 : pm_month d / 12 = y := by omega
      have e2 : pm_month d % 12 = m := by omega
      rw [if_pos (nI_lt hl (by omega)), e1, e2]
      unfold pm_num
      rw [hmo, nI_1]
      rw [show a + 1 = d - pm_first (12 * y + m) + 1 by omega]
    · rw [if_neg (nI_nlt (by omega) (by omega)), pk_sub (by omega), nI_1]
      refine ih (a - pm_mlen y m) (m + 1) ?_ ?_ (by omega) (by omega)
      · rcases Nat.lt_or_ge (m + 1) 12 with q | q
        · exact q
        · have : m = 11 := by omega
          subst this
          rw [show 12 * y + 11 + 1 = 12 * (y + 1) by omega] at h2
          omega
      · rw [show 12 * y + (m + 1) = 12 * y + m + 1 by omega, h2]
        omega
theorem pe_fy (day : Int32) {d : Nat} (hd0 : d < 90000) : ∀ (n a y : Nat), y < 9000 → a + pm_first (12 * y) = d → a ≤ n → lf_fy day (n + 1) (nI a) (nI (2000 + y)) = (nI (2000 + pm_month d / 12), nI (pm_month d % 12 + 1), nI (pm_num d)) := by
  have exit : ∀ (a y : Nat), y < 9000 → a + pm_first (12 * y) = d → a < pm_ylen y → lf_fm day ((nI a).toNatClampNeg + 1) (nI a) (nI (2000 + y)) 1 = (nI (2000 + pm_month d / 12), nI (pm_month d % 12 + 1), nI (pm_num d)) := fun a y hy ha hl => by
    have h2 := pm_first_ysucc y
    rw [nI_clamp (by omega)]
    exact pe_fm day (by omega) (by omega) a a 0 (by decide) (by rw [Nat.add_zero]; exact ha) (Nat.le_refl _) (by omega)
  have hlen : ∀ y, 365 ≤ pm_ylen y ∧ pm_ylen y ≤ 366 := fun y => by unfold pm_ylen; split <;> omega
  intro n
  induction n with
  | zero =>
    intro a y hy ha hn
    have := hlen y
    unfold lf_fy
    rw [pe_daysOf (by omega), if_pos (nI_lt (by omega) (by omega))]
    exact exit a y hy ha (by omega)
  | succ n ih =>
    intro a y hy ha hn
    have h1 := hlen y
    have h2 := pm_first_ysucc y
    have h3 := pm_first_year y
    unfold lf_fy
    rw [pe_daysOf (by omega)]
    by_cases hl : a < pm_ylen y
    · rw [if_pos (nI_lt hl (by omega))]
      exact exit a y hy ha hl
    · rw [if_neg (nI_nlt (by omega) (by omega)), pk_sub (by omega), nI_1]
      exact ih (a - pm_ylen y) (y + 1) (by omega) (by omega) (by omega)
theorem pe_find {d : Nat} (h : d < 90000) : kM_find (nI d) = (nI (2000 + pm_month d / 12), nI (pm_month d % 12 + 1), nI (pm_num d)) := by
  unfold kM_find
  rw [nI_clamp (by omega)]
  exact pe_fy (nI d) h d d 0 (by decide) (by have := pm_first_year 0; omega) (Nat.le_refl _)
