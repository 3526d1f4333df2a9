/-! pure: due days and spans on both sides -/
set_option maxRecDepth 4000 in
theorem nI_inj {a b : Nat} (ha : a < 2 ^ 31) (hb : b < 2 ^ 31) : nI a = nI b ↔ a = b := by
  constructor
  · intro h
    have := congrArg Int32.toInt h
    rw [nI_toInt ha, nI_toInt hb] at this
    omega
  · intro h
    rw [h]
set_option maxRecDepth 4000 in
theorem pe_dm (dd : Int32) {y m : Nat} (hy : y < 3000) (hm : m < 12) : ∀ (n x k : Nat), k ≤ m → m ≤ k + n → lf_dm (nI (2000 + y)) (nI (m + 1)) dd (n + 1) (nI x) (nI (k + 1)) = nI (x + (pm_first (12 * y + m) - pm_first (12 * y + k))) := by
  intro n
  induction n with
  | zero =>
    intro x k hk hn
    have e : k = m := by omega
    subst e
    unfold lf_dm
    rw [if_pos ((nI_leI (by omega) (by omega)).2 (by omega)), Nat.sub_self]
    rfl
  | succ n ih =>
    intro x k hk hn
    unfold lf_dm
    by_cases e : k = m
    · subst e
      rw [if_pos ((nI_leI (by omega) (by omega)).2 (by omega)), Nat.sub_self]
      rfl
    · have h1 := pm_first_msucc y k (by omega)
      have h3 := pm_first_mono (show 12 * y + k + 1 ≤ 12 * y + m by omega)
      rw [if_neg (fun h => absurd ((nI_leI (by omega) (by omega)).1 h) (by omega)), pe_daysIn (by omega) (by omega), nI_add, nI_1]
      rw [ih (x + pm_mlen y k) (k + 1) (by omega) (by omega)]
      congr 1
      rw [show 12 * y + (k + 1) = 12 * y + k + 1 by omega]
      omega
set_option maxRecDepth 4000 in
theorem pe_dy (dd : Int32) {y m : Nat} (hy : y < 3000) (hm : m < 12) : ∀ (n x k : Nat), k ≤ y → y ≤ k + n → lf_dy (nI (2000 + y)) (nI (m + 1)) dd (n + 1) (nI x) (nI (2000 + k)) = nI (x + (pm_first (12 * y + m) - pm_first (12 * k))) := by
  have exit : ∀ x : Nat, lf_dm (nI (2000 + y)) (nI (m + 1)) dd (((nI (m + 1)).toInt - 1).toNat + 1) (nI x) 1 = nI (x + (pm_first (12 * y + m) - pm_first (12 * y))) := fun x => by
    rw [nI_toInt (by omega), show ((((m + 1 : Nat) : Int) - 1).toNat) = m by omega]
    exact pe_dm dd hy hm m x 0 (Nat.zero_le _) (by omega)
  intro n
  induction n with
  | zero =>
    intro x k hk hn
    have e : k = y := by omega
    subst e
    unfold lf_dy
    rw [if_pos ((nI_leI (by omega) (by omega)).2 (by omega))]
    exact exit x
  | succ n ih =>
    intro x k hk hn
    unfold lf_dy
    by_cases e : k = y
    · subst e
      rw [if_pos ((nI_leI (by omega) (by omega)).2 (by omega))]
      exact exit x
    · have h1 := pm_first_ysucc k
      have h3 := pm_first_mono (show 12 * (k + 1) ≤ 12 * y + m by omega)
      rw [if_neg (fun h => absurd ((nI_leI (by omega) (by omega)).1 h) (by omega)), pe_daysOf (by omega), nI_add, nI_1, show 2000 + k + 1 = 2000 + (k + 1) by omega]
      rw [ih (x + pm_ylen k) (k + 1) (by omega) (by omega)]
      congr 1
      omega
set_option maxRecDepth 4000 in
theorem pe_dayOf {y m q : Nat} (hy : y < 3000) (hm : m < 12) : kM_dayOf (nI (2000 + y)) (nI (m + 1)) (nI (q + 1)) = nI (q + pm_first (12 * y + m)) := by
  unfold kM_dayOf
  rw [nI_pred, nI_toInt (by omega), show ((((2000 + y : Nat) : Int) - 2000).toNat) = y by omega]
  have h := pe_dy (nI (q + 1)) hy hm y q 0 (Nat.zero_le _) (by omega)
  have h0 := pm_first_year 0
  rw [show pm_first (12 * 0) = 0 by omega, Nat.sub_zero] at h
  exact h
set_option maxRecDepth 4000 in
theorem pe_div12 {n : Nat} (h : n < 2 ^ 30) : nI n / 12 = nI (n / 12) ∧ nI n - nI n / 12 * 12 = nI (n % 12) := by
  have e : nI n / 12 = nI (n / 12) := pk_div (d := 12) (by omega) (by decide) (by decide)
  refine ⟨e, ?_⟩
  rw [e, show nI (n / 12) * 12 = nI (n / 12 * 12) from pk_mul _ 12, pk_sub (by omega)]
  congr 1
  omega
set_option maxRecDepth 4000 in
theorem pe_dueDay {d k : Nat} (hd : d < 30000) (hk : k < 1000) : kM_dueDay (nI d) (nI k) = nI (pm_due d k) := by
  unfold kM_dueDay
  rw [pe_find (by omega)]
  have hmo : pm_month d < 2000 := by
    have h1 := (pm_month_is d).1
    have h2 : ∀ m, 28 * m ≤ pm_first m + 28 := fun m => by
      induction m with
      | zero => omega
      | succ m ih =>
        have := pm_first_succ m
        omega
    have := h2 (pm_month d)
    omega
  have hnum := pm_num_in d
  unfold pm_due
  generalize pm_month d = mo at *
  generalize pm_num d = num at *
  show (if kM_daysIn (nI (2000 + mo / 12) + (((nI (mo % 12 + 1) - 1) + nI k) / 12)) ((((nI (mo % 12 + 1) - 1) + nI k) - ((nI (mo % 12 + 1) - 1) + nI k) / 12 * 12) + 1) ≤ nI num then _ else _) = _
  rw [nI_pred, nI_add, (pe_div12 (n := mo % 12 + k) (by omega)).2, (pe_div12 (n := mo % 12 + k) (by omega)).1, nI_add, nI_1]
  rw [show 2000 + mo / 12 + (mo % 12 + k) / 12 = 2000 + (mo + k) / 12 by omega, show (mo % 12 + k) % 12 = (mo + k) % 12 by omega]
  rw [pe_daysIn (by omega) (by omega)]
  have hl := pm_mlen_in ((mo + k) / 12) ((mo + k) % 12)
  have hs := pm_first_msucc ((mo + k) / 12) ((mo + k) % 12) (by omega)
  rw [show 12 * ((mo + k) / 12) + (mo + k) % 12 = mo + k by omega] at hs
  generalize pm_mlen ((mo + k) / 12) ((mo + k) % 12) = ml at *
  by_cases hle : ml ≤ num
  · rw [if_pos ((nI_leI (by omega) (by omega)).2 hle)]
    obtain ⟨q, rfl⟩ : ∃ q, ml = q + 1 := ⟨ml - 1, by omega⟩
    rw [pe_dayOf (by omega) (by omega), show 12 * ((mo + k) / 12) + (mo + k) % 12 = mo + k by omega]
    congr 1
    omega
  · rw [if_neg (fun h => absurd ((nI_leI (by omega) (by omega)).1 h) hle)]
    obtain ⟨q, rfl⟩ : ∃ q, num = q + 1 := ⟨num - 1, by omega⟩
    rw [pe_dayOf (by omega) (by omega), show 12 * ((mo + k) / 12) + (mo + k) % 12 = mo + k by omega]
    congr 1
    omega
set_option maxRecDepth 4000 in
theorem pm_first_le (m : Nat) : pm_first m ≤ 31 * m := by
  induction m with
  | zero => decide
  | succ m ih =>
    have := pm_first_succ m
    omega
set_option maxRecDepth 4000 in
theorem pm_first_ge (m : Nat) : 28 * m ≤ pm_first m := by
  induction m with
  | zero => omega
  | succ m ih =>
    have := pm_first_succ m
    omega
set_option maxRecDepth 4000 in
theorem pe_kmin {a b : Nat} (ha : a < 2 ^ 31) (hb : b < 2 ^ 31) : kmin (nI a) (nI b) = nI (min a b) := by
  unfold kmin
  by_cases h : b < a
  · rw [if_pos (nI_lt h ha), Nat.min_eq_right (by omega)]
  · rw [if_neg (nI_nlt (by omega) hb), Nat.min_eq_left (by omega)]
set_option maxRecDepth 4000 in
theorem pe_dueDayT {S : KS} {d k : Nat} (hd : d < 30000) (hk : k < 1000) (h15 : S 0 15 = nI (pm_month d)) (h16 : S 0 16 = nI (pm_num d)) : kT_dueDay S (nI k) = nI (pm_due d k) := by
  unfold kT_dueDay pm_due
  have hmo : pm_month d < 2000 := by
    have h1 := (pm_month_is d).1
    have := pm_first_ge (pm_month d)
    omega
  have hnum := pm_num_in d
  have hf1 := pm_first_le (pm_month d + k)
  have hf2 := pm_first_le (pm_month d + k + 1)
  have hf3 := pm_first_succ (pm_month d + k)
  rw [h15, h16, nI_add, nI_1, pe_firstDayOf (by omega), pe_firstDayOf (by omega), nI_add]
  rw [show nI (pm_first (pm_month d + k) + pm_num d) - 1 = nI (pm_first (pm_month d + k) + pm_num d - 1) from pk_sub (b := 1) (by omega), show nI (pm_first (pm_month d + k + 1)) - 1 = nI (pm_first (pm_month d + k + 1) - 1) from pk_sub (b := 1) (by omega)]
  exact pe_kmin (by omega) (by omega)
/-! spans -/
def nL (n : Nat) : Int64 := Int64.ofNat n
set_option maxRecDepth 4000 in
theorem nL_toInt {n : Nat} (h : n < 2 ^ 63) : (nL n).toInt = (n : Int) := Int64.toInt_ofNat_of_lt h
set_option maxRecDepth 4000 in
theorem nL_add (a b : Nat) : nL a + nL b = nL (a + b) := (Int64.ofNat_add a b).symm
set_option maxRecDepth 4000 in
theorem nL_mul (a b : Nat) : nL a * nL b = nL (a * b) := (Int64.ofNat_mul a b).symm
set_option maxRecDepth 4000 in
theorem nL_of {n : Nat} (h : n < 2 ^ 31) : (nI n).toInt64 = nL n := by
  apply Int64.toInt_inj.1
  rw [Int32.toInt_toInt64, nI_toInt h, nL_toInt (by omega)]
set_option maxRecDepth 4000 in
theorem nL_to {n : Nat} : (nL n).toInt32 = nI n := by
  unfold nL nI
  exact Int64.toInt32_ofNat
set_option maxRecDepth 4000 in
theorem pe_thirties {d : Nat} (h : d < 90000) : kY_thirties (nI d) = nI (30 * pm_month d + min (pm_num d) 30) := by
  unfold kY_thirties
  have hl := pm_month_lt h
  have hn := pm_num_in d
  rw [pe_monthOf (by omega), pe_firstDayOf (by omega), pk_sub pe_month_le, nI_1, show (30 : Int32) * nI (pm_month d) = nI (30 * pm_month d) from pk_mul 30 _]
  rw [show d - pm_first (pm_month d) + 1 = pm_num d from rfl, show kmin (nI (pm_num d)) 30 = nI (min (pm_num d) 30) from pe_kmin (b := 30) (by omega) (by decide), nI_add]
set_option maxRecDepth 4000 in
theorem pe_mon {a b : Nat} (h : a ≤ b) : pm_month a ≤ pm_month b := by
  rcases Nat.lt_or_ge (pm_month b) (pm_month a) with q | q
  · have h1 := (pm_month_is a).1
    have h2 := (pm_month_is b).2
    have h3 := pm_first_mono (show pm_month b + 1 ≤ pm_month a from q)
    omega
  · exact q
set_option maxRecDepth 4000 in
theorem pe_thir_mono {a b : Nat} (h : a ≤ b) : 30 * pm_month a + min (pm_num a) 30 ≤ 30 * pm_month b + min (pm_num b) 30 := by
  have h1 := pe_mon h
  have h2 := pm_num_in a
  have h3 := pm_num_in b
  rcases Nat.lt_or_ge (pm_month a) (pm_month b) with q | q
  · omega
  · have e : pm_month a = pm_month b := by omega
    have : pm_num a ≤ pm_num b := by
      unfold pm_num
      rw [e]
      have := (pm_month_is b).1
      omega
    omega
set_option maxRecDepth 4000 in
theorem pe_longs {d : Nat} (h : d < 90000) : kY_inLongYears (nI d) = nI (pg_long d) := by
  unfold kY_inLongYears pg_long
  have e : nI d / 1461 = nI (d / 1461) := pk_div (d := 1461) (by omega) (by decide) (by decide)
  rw [e, show nI (d / 1461) * 366 = nI (d / 1461 * 366) from pk_mul _ 366, show nI (d / 1461) * 1461 = nI (d / 1461 * 1461) from pk_mul _ 1461, pk_sub (by omega)]
  rw [show d - d / 1461 * 1461 = d % 1461 by omega, show kmin (nI (d % 1461)) 366 = nI (min (d % 1461) 366) from pe_kmin (b := 366) (by omega) (by decide), nI_add]
def ps_top (rule a b : Nat) : Nat := if rule = 2 then (30 * pm_month b + min (pm_num b) 30) - (30 * pm_month a + min (pm_num a) 30) else if rule = 3 then pg_w b - pg_w a else b - a
set_option maxRecDepth 4000 in
theorem pe_top {rule a b : Nat} (hr : rule < 4) (hab : a ≤ b) (hb : b < 90000) : kS_top (nI rule) (nI a) (nI b) = nI (ps_top rule a b) := by
  unfold kS_top ps_top
  have e2 : nI rule = (2 : Int32) ↔ rule = 2 := nI_inj (b := 2) (by omega) (by decide)
  have e3 : nI rule = (3 : Int32) ↔ rule = 3 := nI_inj (b := 3) (by omega) (by decide)
  simp only [e2, e3]
  split
  · rw [pe_thirties hb, pe_thirties (by omega), pk_sub (pe_thir_mono hab)]
  · split
    · have hw := pg_long_mono hab
      have hl1 := pg_long_le a
      have hl2 := pg_long_le b
      rw [pe_longs hb, pe_longs (by omega), pk_sub hw.1, pk_sub hab, pk_sub hw.2, show ∀ x, nI x * 365 = nI (x * 365) from fun x => pk_mul x 365, show ∀ x, nI x * 366 = nI (x * 366) from fun x => pk_mul x 366, nI_add]
      congr 1
      unfold pg_w
      have : (pg_long b - pg_long a) * 365 = pg_long b * 365 - pg_long a * 365 := Nat.sub_mul _ _ _
      omega
    · exact pk_sub hab
set_option maxRecDepth 4000 in
theorem pe_sp {a b : Nat} (how : Int32) (hab : a ≤ b) (hb : b < 90000) : ∀ (n k : Nat), k < 400 → b ≤ pm_first (12 * k) + n → lf_sp how (nI a) (nI b) (n + 1) (nL (pg_w (max a (min b (pm_first (12 * k)))) - pg_w a)) (nI (pm_first (12 * k))) (nI (2000 + k)) = nL (pg_w b - pg_w a) := by
  intro n
  induction n with
  | zero =>
    intro k hk hn
    unfold lf_sp
    have hF := pm_first_le (12 * k)
    rw [if_pos ((nI_leI (by omega) (by omega)).2 (by omega)), show max a (min b (pm_first (12 * k))) = b by omega]
  | succ n ih =>
    intro k hk hn
    have hF := pm_first_le (12 * k)
    have hY := pm_first_ysucc k
    have hyl : pm_ylen k = 366 ∨ pm_ylen k = 365 := by unfold pm_ylen; split <;> omega
    have hy0 : pm_ylen k < 1000 := by omega
    have hstep : pm_first (12 * k) < b → lf_sp how (nI a) (nI b) (n + 1) (nL (pg_w (max a (min b (pm_first (12 * (k + 1))))) - pg_w a)) (nI (pm_first (12 * k) + pm_ylen k)) (nI (2000 + k + 1)) = nL (pg_w b - pg_w a) := fun hlt => by
      have hk1 : k + 1 < 400 := by
        have := pm_first_ge (12 * k)
        omega
      have := ih (k + 1) hk1 (by omega)
      rw [hY] at this ⊢
      exact this
    unfold lf_sp
    rw [pe_daysOf (by omega), nI_add, nI_1]
    have ed : nI (pm_ylen k) = (366 : Int32) ↔ pm_ylen k = 366 := nI_inj (b := 366) (by omega) (by decide)
    simp only [nI_leI (show b < 2 ^ 31 by omega) (show pm_first (12 * k) < 2 ^ 31 by omega), nI_leI (show pm_first (12 * k) < 2 ^ 31 by omega) (show a < 2 ^ 31 by omega), nI_leI (show b < 2 ^ 31 by omega) (show pm_first (12 * k) + pm_ylen k < 2 ^ 31 by omega), nI_leI (show b < 2 ^ 31 by omega) (show a < 2 ^ 31 by omega), nI_leI (show pm_first (12 * k) + pm_ylen k < 2 ^ 31 by omega) (show a < 2 ^ 31 by omega), nI_leI (show pm_first (12 * k) + pm_ylen k < 2 ^ 31 by omega) (show pm_first (12 * k) < 2 ^ 31 by omega), ed]
    by_cases h0 : b ≤ pm_first (12 * k)
    · rw [if_pos h0, show max a (min b (pm_first (12 * k))) = b by omega]
    · rw [if_neg h0]
      have hs := hstep (by omega)
      have hadd : ∀ lo hi : Nat, pm_first (12 * k) ≤ lo → a ≤ lo → lo ≤ hi → hi ≤ pm_first (12 * k) + pm_ylen k → max a (min b (pm_first (12 * k))) = lo → max a (min b (pm_first (12 * (k + 1)))) = hi → (pm_ylen k = 366 → nL (pg_w (max a (min b (pm_first (12 * k)))) - pg_w a) + (nI hi - nI lo).toInt64 * 365 = nL (pg_w (max a (min b (pm_first (12 * (k + 1))))) - pg_w a)) ∧ (¬ pm_ylen k = 366 → nL (pg_w (max a (min b (pm_first (12 * k)))) - pg_w a) + (nI hi - nI lo).toInt64 * 366 = nL (pg_w (max a (min b (pm_first (12 * (k + 1))))) - pg_w a)) := fun lo hi h1 h2 h3 h4 h5 h6 => by
        have hw := pg_w_in k h1 h3 (by omega)
        have hm := (pg_w_mono h2).1
        rw [h5, h6, pk_sub h3, nL_of (by omega)]
        refine ⟨fun q => ?_, fun q => ?_⟩
        · rw [if_pos q] at hw
          rw [show nL (hi - lo) * 365 = nL ((hi - lo) * 365) from nL_mul _ 365, nL_add]
          congr 1
          omega
        · rw [if_neg q] at hw
          rw [show nL (hi - lo) * 366 = nL ((hi - lo) * 366) from nL_mul _ 366, nL_add]
          congr 1
          omega
      by_cases h1 : pm_first (12 * k) ≤ a
      · rw [if_pos h1]
        by_cases h2 : b ≤ pm_first (12 * k) + pm_ylen k
        · rw [if_pos h2]
          by_cases h3 : b ≤ a
          · rw [if_pos h3]
            have e : max a (min b (pm_first (12 * k))) = max a (min b (pm_first (12 * (k + 1)))) := by omega
            rw [e]
            exact hs
          · rw [if_neg h3]
            have hz := hadd a b h1 (Nat.le_refl _) hab h2 (by omega) (by omega)
            by_cases h4 : pm_ylen k = 366
            · rw [if_pos h4, hz.1 h4]
              exact hs
            · rw [if_neg h4, hz.2 h4]
              exact hs
        · rw [if_neg h2]
          by_cases h3 : pm_first (12 * k) + pm_ylen k ≤ a
          · rw [if_pos h3]
            have e : max a (min b (pm_first (12 * k))) = max a (min b (pm_first (12 * (k + 1)))) := by omega
            rw [e]
            exact hs
          · rw [if_neg h3]
            have hz := hadd a (pm_first (12 * k) + pm_ylen k) h1 (Nat.le_refl _) (by omega) (Nat.le_refl _) (by omega) (by omega)
            by_cases h4 : pm_ylen k = 366
            · rw [if_pos h4, hz.1 h4]
              exact hs
            · rw [if_neg h4, hz.2 h4]
              exact hs
      · rw [if_neg h1]
        by_cases h2 : b ≤ pm_first (12 * k) + pm_ylen k
        · rw [if_pos h2, if_neg h0]
          have hz := hadd (pm_first (12 * k)) b (Nat.le_refl _) (by omega) (by omega) h2 (by omega) (by omega)
          by_cases h4 : pm_ylen k = 366
          · rw [if_pos h4, hz.1 h4]
            exact hs
          · rw [if_neg h4, hz.2 h4]
            exact hs
        · rw [if_neg h2, if_neg (by omega)]
          have hz := hadd (pm_first (12 * k)) (pm_first (12 * k) + pm_ylen k) (Nat.le_refl _) (by omega) (by omega) (Nat.le_refl _) (by omega) (by omega)
          by_cases h4 : pm_ylen k = 366
          · rw [if_pos h4, hz.1 h4]
            exact hs
          · rw [if_neg h4, hz.2 h4]
            exact hs
set_option maxRecDepth 4000 in
theorem ps_top_lt {rule a b : Nat} (hab : a ≤ b) (hb : b < 90000) : ps_top rule a b < 33000000 := by
  unfold ps_top
  have h1 := pm_month_lt hb
  have h2 := pm_num_in b
  have h3 := (pg_w_mono hab).2
  split
  · omega
  · split <;> omega
set_option maxRecDepth 4000 in
theorem pe_span {rule a b : Nat} (hr : rule < 4) (hab : a ≤ b) (hb : b < 90000) : kM_span (nI rule) (nI a) (nI b) = nL (ps_top rule a b) := by
  unfold kM_span
  by_cases h2 : 2 ≤ rule
  · rw [if_pos (show (2 : Int32) ≤ nI rule from (nI_leI (a := 2) (by decide) (by omega)).2 h2)]
    by_cases h3 : rule = 2
    · subst h3
      rw [if_pos (show nI 2 = (2 : Int32) from rfl)]
      have ht := pe_thir_mono hab
      have hlt := ps_top_lt (rule := 2) hab hb
      unfold ps_top at hlt ⊢
      rw [if_pos rfl] at hlt ⊢
      rw [← nL_of (by omega), ← pk_sub ht]
      have hn1 := pm_num_in a
      have hn2 := pm_num_in b
      have key : ∀ x : Nat, ((360 : Int32) * nI (2000 + pm_month x / 12) + 30 * nI (pm_month x % 12 + 1)) = nI 720030 + nI (30 * pm_month x) := fun x => by
        rw [show (360 : Int32) * nI (2000 + pm_month x / 12) = nI (360 * (2000 + pm_month x / 12)) from pk_mul 360 _, show (30 : Int32) * nI (pm_month x % 12 + 1) = nI (30 * (pm_month x % 12 + 1)) from pk_mul 30 _, nI_add, nI_add]
        congr 1
        omega
      have fin : ∀ p q : Nat, p = min (pm_num b) 30 → q = min (pm_num a) 30 → ((((360 : Int32) * nI (2000 + pm_month b / 12) + 30 * nI (pm_month b % 12 + 1)) + nI p) - (((360 : Int32) * nI (2000 + pm_month a / 12) + 30 * nI (pm_month a % 12 + 1)) + nI q)) = nI (30 * pm_month b + min (pm_num b) 30) - nI (30 * pm_month a + min (pm_num a) 30) := fun p q hp hq => by
        rw [key, key, ← hp, ← hq, nI_add, nI_add, nI_add, nI_add, pk_sub (by omega), pk_sub (by omega)]
        congr 1
        omega
      rw [pe_find (show a < 90000 by omega), pe_find hb]
      show (if nI (pm_num a) ≤ 30 then _ else _) = _
      by_cases ha3 : pm_num a ≤ 30
      · rw [if_pos (show nI (pm_num a) ≤ 30 from (nI_leI (b := 30) (by omega) (by decide)).2 ha3)]
        by_cases hb3 : pm_num b ≤ 30
        · rw [if_pos (show nI (pm_num b) ≤ 30 from (nI_leI (b := 30) (by omega) (by decide)).2 hb3)]
          exact congrArg Int32.toInt64 (fin (pm_num b) (pm_num a) (by omega) (by omega))
        · rw [if_neg (show ¬ nI (pm_num b) ≤ 30 from fun h => hb3 ((nI_leI (b := 30) (by omega) (by decide)).1 h))]
          exact congrArg Int32.toInt64 (fin 30 (pm_num a) (by omega) (by omega))
      · rw [if_neg (show ¬ nI (pm_num a) ≤ 30 from fun h => ha3 ((nI_leI (b := 30) (by omega) (by decide)).1 h))]
        by_cases hb3 : pm_num b ≤ 30
        · rw [if_pos (show nI (pm_num b) ≤ 30 from (nI_leI (b := 30) (by omega) (by decide)).2 hb3)]
          exact congrArg Int32.toInt64 (fin (pm_num b) 30 (by omega) (by omega))
        · rw [if_neg (show ¬ nI (pm_num b) ≤ 30 from fun h => hb3 ((nI_leI (b := 30) (by omega) (by decide)).1 h))]
          exact congrArg Int32.toInt64 (fin 30 30 (by omega) (by omega))
    · have e3 : rule = 3 := by omega
      subst e3
      rw [if_neg (show ¬ nI 3 = (2 : Int32) by decide), nI_toInt (by omega), show ((b : Int).toNat) = b from rfl]
      unfold ps_top
      rw [if_neg (by decide), if_pos rfl]
      have h := pe_sp (nI 3) hab hb b 0 (by decide) (by omega)
      have e0 : pm_first (12 * 0) = 0 := by decide
      rw [e0, show max a (min b 0) = a by omega, Nat.sub_self] at h
      exact h
  · rw [if_neg (show ¬ (2 : Int32) ≤ nI rule from fun h => h2 ((nI_leI (a := 2) (by decide) (by omega)).1 h)), pk_sub hab, nL_of (by omega)]
    unfold ps_top
    rw [if_neg (by omega), if_neg (by omega)]
set_option maxRecDepth 4000 in
theorem pe_spans {rule a b : Nat} (hr : rule < 4) (hab : a ≤ b) (hb : b < 90000) : kM_span (nI rule) (nI a) (nI b) = (kS_top (nI rule) (nI a) (nI b)).toInt64 := by
  have h := ps_top_lt (rule := rule) hab hb
  rw [pe_span hr hab hb, pe_top hr hab hb, nL_of (by omega)]
