/-! pure: interest, date, advance; the start -/
set_option maxRecDepth 4000 in
theorem rd_start : rd [] km0 0 := by
  refine ⟨by omega, rfl, rfl, by decide, fun i x hx => ?_, fun j _ => ⟨⟨rfl, rfl, rfl, rfl, rfl, rfl, rfl⟩, fun _ _ => rfl, fun _ _ => rfl⟩⟩
  cases hx
set_option maxRecDepth 4000 in
theorem rd_today {Ls : kLs} {σ : KS} {t : Nat} (h : rd Ls σ t) : σ 0 1 ≤ 1073741824 := by
  have h1 := h.1
  rw [h.2.1]
  exact nI_le (b := 1073741824) (by omega) (by decide)
set_option maxRecDepth 4000 in
theorem rd_date {Ls : kLs} {σ : KS} {t : Nat} (h : rd Ls σ t) : kD_date km0 (nI t) = (kM_date σ).1 ∧ rd Ls (kM_date σ).2 t := by
  refine ⟨?_, h⟩
  have h1 := h.1
  have hml : pm_month t < 2000 := by
    have := (pm_month_is t).1
    have := pm_first_ge (pm_month t)
    omega
  unfold kD_date kM_date
  rw [h.2.1, pe_find (by omega), pe_monthOf (by omega), pe_number (by omega), (pe_div12 (n := pm_month t) (by omega)).2, (pe_div12 (n := pm_month t) (by omega)).1, nI_1, show (2000 : Int32) + nI (pm_month t / 12) = nI (2000 + pm_month t / 12) from nI_add 2000 _]
set_option maxRecDepth 4000 in
theorem rd_interest {Ls : kLs} {σ : KS} {t : Nat} (h : rd Ls σ t) (a r x y ru ro : Int32) : (kM_interest σ a r x y ru ro).2 0 0 = (kD_interest km0 (nI t) a r x y ru ro).1 ∧ ((kD_interest km0 (nI t) a r x y ru ro).1 = 0 → (kD_interest km0 (nI t) a r x y ru ro).2.1 = (kM_interest σ a r x y ru ro).1) ∧ rd Ls (kM_interest σ a r x y ru ro).2 t := by
  unfold kD_interest kM_interest
  have hb : ∀ v a b, kD_within v a b = kM_within v a b := fun _ _ _ => rfl
  have n1 : ¬ (1 : Int32) = 0 := by decide
  rw [hb, hb, hb, hb, hb, hb]
  by_cases c1 : kM_within a 0 100000000 = 0
  · rw [if_pos c1, if_pos c1]
    exact ⟨rfl, fun z => absurd z n1, h⟩
  rw [if_neg c1, if_neg c1]
  by_cases c2 : kM_within r 0 30000 = 0
  · rw [if_pos c2, if_pos c2]
    exact ⟨rfl, fun z => absurd z n1, h⟩
  rw [if_neg c2, if_neg c2]
  by_cases c3 : kM_within x 0 4000 = 0
  · rw [if_pos c3, if_pos c3]
    exact ⟨rfl, fun z => absurd z n1, h⟩
  rw [if_neg c3, if_neg c3]
  by_cases c4 : kM_within y x 4000 = 0
  · rw [if_pos c4, if_pos c4]
    exact ⟨rfl, fun z => absurd z n1, h⟩
  rw [if_neg c4, if_neg c4]
  by_cases c5 : kM_within ru 0 3 = 0
  · rw [if_pos c5, if_pos c5]
    exact ⟨rfl, fun z => absurd z n1, h⟩
  rw [if_neg c5, if_neg c5]
  by_cases c6 : kM_within ro 0 3 = 0
  · rw [if_pos c6, if_pos c6]
    exact ⟨rfl, fun z => absurd z n1, h⟩
  rw [if_neg c6, if_neg c6]
  refine ⟨rfl, fun _ => ?_, h⟩
  obtain ⟨xn, x1, x2, rfl⟩ := win_nat (a := 0) (b := 4000) (by decide) (by decide) c3
  obtain ⟨yn, y1, y2, rfl⟩ := win_nat (a := xn) (b := 4000) (by decide) x2 c4
  obtain ⟨un, u1, u2, rfl⟩ := win_nat (a := 0) (b := 3) (by decide) (by decide) c5
  obtain ⟨hn, v1, v2, rfl⟩ := win_nat (a := 0) (b := 3) (by decide) (by decide) c6
  exact pe_interest (pe_r4of (by omega)) (pe_spans (by omega) y1 (by omega))
set_option maxRecDepth 4000 in
/-- days go by: the answers, and what the contracts of both sides ask -/
theorem rd_advance {Ls : kLs} {σ : KS} {t : Nat} (h : rd Ls σ t) (days : Int32) : (kM_advance σ days).2 0 0 = (kD_advance (nI t) days Ls).1 ∧ ((kD_advance (nI t) days Ls).1 = 0 → (kD_advance (nI t) days Ls).2.1 = (kM_advance σ days).1 ∧ ∃ t', (kD_advance (nI t) days Ls).2.2.1 = nI t' ∧ rd (kD_advance (nI t) days Ls).2.2.2 (kM_advance σ days).2 t' ∧ (kD_advance (nI t) days Ls).2.2.2.map Prod.fst = Ls.map Prod.fst) ∧ (¬ (kD_advance (nI t) days Ls).1 = 0 → rd Ls (kM_advance σ days).2 t) ∧ ((0 : Int32) ≤ days → days ≤ 1500 - nI t → kD_ok days.toNatClampNeg (nI t) Ls) := by
  have h1 := h.1
  have hsub : (1500 : Int32) - nI t = nI (1500 - t) := pk_sub (a := 1500) h1
  unfold kD_advance kM_advance
  rw [h.2.1, hsub]
  by_cases c1 : (0 : Int32) ≤ days
  · rw [if_pos c1, if_pos c1]
    by_cases c2 : days ≤ nI (1500 - t)
    · have d0 : (0 : Int) ≤ days.toInt := Int32.le_iff_toInt_le.1 c1
      have d1 := Int32.le_iff_toInt_le.1 c2
      rw [nI_toInt (by omega)] at d1
      obtain ⟨k, hk, rfl⟩ : ∃ k : Nat, k ≤ 1500 - t ∧ days = nI k := ⟨days.toInt.toNat, by omega, i32_of (by omega) (by omega)⟩
      rw [if_pos c2, if_pos c2, nI_clamp (by omega)]
      have hr := rd_adv σ k 0 t 0 Ls (mkM 0 (nI t) (σ 0 2) (σ 0 3) (σ 0 4) (σ 0 5) (σ 1) (σ 2) (σ 3) (σ 4) (σ 5) (σ 6) (σ 7) (σ 8) (σ 9) (σ 10) (σ 11) (σ 12) (σ 13) (σ 14) (σ 15) (σ 16) (σ 17) (σ 18) (σ 19) (σ 20) (σ 21) (σ 22)) ⟨h1, rfl, h.2.2⟩ (by omega) (by omega)
      rw [Nat.zero_add] at hr
      exact ⟨hr.2.2.2.1, fun _ => ⟨hr.1.symm, t + k, hr.2.2.1, hr.2.1, hr.2.2.2.2.2⟩, fun z => absurd rfl z, fun _ _ => hr.2.2.2.2.1⟩
    · rw [if_neg c2, if_neg c2]
      refine ⟨?_, fun z => absurd z (show ¬ (2 : Int32) = 0 by decide), fun _ => ?_, fun _ z => absurd z c2⟩
      · split <;> rfl
      · split
        · exact ⟨h1, rfl, h.2.2⟩
        · exact ⟨h1, rfl, h.2.2⟩
  · rw [if_neg c1, if_neg c1]
    refine ⟨?_, fun z => absurd z (show ¬ (1 : Int32) = 0 by decide), fun _ => ?_, fun z => absurd z c1⟩
    · split <;> rfl
    · split
      · exact ⟨h1, rfl, h.2.2⟩
      · exact ⟨h1, rfl, h.2.2⟩
def rd_Iv (days : Int32) (dd : Int32) (S : KS) : Prop := ∃ (Ls : kLs) (d k t : Nat), dd = nI d ∧ days = nI (d + k) ∧ d + k ≤ 1500 ∧ t + k ≤ 1500 ∧ rd Ls S t
set_option maxRecDepth 4000 in
theorem rd_adv_h0 {Ls : kLs} {σ : KS} {t : Nat} (h : rd Ls σ t) (days : Int32) : (0 : Int32) ≤ days → days ≤ (1500 - (σ 0 1)) → rd_Iv days 0 (kc0 σ) := fun c1 c2 => by
  have h1 := h.1
  have hsub : (1500 : Int32) - nI t = nI (1500 - t) := pk_sub (a := 1500) h1
  rw [h.2.1, hsub] at c2
  have d0 : (0 : Int) ≤ days.toInt := Int32.le_iff_toInt_le.1 c1
  have d1 := Int32.le_iff_toInt_le.1 c2
  rw [nI_toInt (by omega)] at d1
  exact ⟨Ls, 0, days.toInt.toNat, t, rfl, i32_of (by omega) (by omega), by omega, by omega, h⟩
set_option maxRecDepth 4000 in
theorem rd_adv_hs (σ : KS) (days : Int32) : ∀ (dd : Int32) (S : KS), rd_Iv days dd S → S 0 2 = σ 0 2 → ¬ days ≤ dd → kd_ok S ∧ rd_Iv days (dd + 1) (kd_day S) := fun dd S hI _ hd => by
  obtain ⟨Ls, d, k, t, rfl, rfl, h3, h4, h5⟩ := hI
  have hk : k ≠ 0 := fun e => hd (nI_le (by omega) (by omega))
  obtain ⟨r0, r1, _, _⟩ := rd_day h5 (by omega)
  exact ⟨r0, kD_dl Ls (nI (t + 1)), d + 1, k - 1, t + 1, nI_1 d, by rw [show d + 1 + (k - 1) = d + k by omega], by omega, by omega, r1⟩
