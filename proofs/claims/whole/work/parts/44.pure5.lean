/-! pure: rounding and interest as numbers -/
set_option maxRecDepth 4000 in
theorem nL_leI {a b : Nat} (ha : a < 2 ^ 63) (hb : b < 2 ^ 63) : nL a ≤ nL b ↔ a ≤ b := by
  rw [Int64.le_iff_toInt_le, nL_toInt ha, nL_toInt hb]
  omega
set_option maxRecDepth 4000 in
theorem nL_ltI {a b : Nat} (ha : a < 2 ^ 63) (hb : b < 2 ^ 63) : nL a < nL b ↔ a < b := by
  rw [Int64.lt_iff_toInt_lt, nL_toInt ha, nL_toInt hb]
  omega
set_option maxRecDepth 4000 in
theorem nL_inj {a b : Nat} (ha : a < 2 ^ 63) (hb : b < 2 ^ 63) : nL a = nL b ↔ a = b := by
  rw [← Int64.toInt_inj, nL_toInt ha, nL_toInt hb]
  omega
set_option maxRecDepth 4000 in
theorem nL_sub {a b : Nat} (h : b ≤ a) : nL a - nL b = nL (a - b) := (Int64.ofNat_sub a b h).symm
set_option maxRecDepth 4000 in
theorem nL_div {a b : Nat} (ha : a < 2 ^ 63) (h0 : 0 < b) (hb : b < 2 ^ 63) : nL a / nL b = nL (a / b) := by
  apply Int64.toInt_inj.1
  rw [lg_ldiv_nonneg (by rw [nL_toInt ha]; omega) (by rw [nL_toInt hb]; omega), nL_toInt ha, nL_toInt hb, nL_toInt (Nat.lt_of_le_of_lt (Nat.div_le_self a b) ha)]
  rfl
abbrev pr_up (q r b how : Nat) : Prop := (how = 1 ∧ 0 < r) ∨ (how = 2 ∧ b ≤ 2 * r) ∨ (how = 3 ∧ (b < 2 * r ∨ (2 * r = b ∧ q % 2 = 1)))
def pr_rnd (t b how : Nat) : Nat := if pr_up (t / b) (t % b) b how then t / b + 1 else t / b
set_option maxRecDepth 4000 in
theorem pr_rnd_le (t b how : Nat) : pr_rnd t b how ≤ t / b + 1 := by
  unfold pr_rnd
  split <;> omega
set_option maxRecDepth 4000 in
theorem pr_rnd_ge (t b how : Nat) : t / b ≤ pr_rnd t b how := by
  unfold pr_rnd
  split <;> omega
set_option maxRecDepth 4000 in
theorem pr_rnd_0 {b : Nat} (how : Nat) (h0 : 0 < b) : pr_rnd 0 b how = 0 := by
  unfold pr_rnd pr_up
  rw [Nat.zero_div, Nat.zero_mod, if_neg (by omega)]
set_option maxRecDepth 4000 in
theorem pr_rnd_mono {t u b : Nat} (how : Nat) (h0 : 0 < b) (h : t ≤ u) : pr_rnd t b how ≤ pr_rnd u b how := by
  have hd : t / b ≤ u / b := Nat.div_le_div_right h
  have e1 := Nat.div_add_mod t b
  have e2 := Nat.div_add_mod u b
  have h3 := pr_rnd_le t b how
  have h4 := pr_rnd_ge u b how
  rcases Nat.lt_or_ge (t / b) (u / b) with q | q
  · omega
  · have e : t / b = u / b := by omega
    have hm : t % b ≤ u % b := by
      rw [e] at e1
      omega
    unfold pr_rnd pr_up
    rw [e]
    split
    · rw [if_pos (by omega)]
      exact Nat.le_refl _
    · split <;> omega
set_option maxRecDepth 4000 in
theorem pe_rnd {t b how : Nat} (hh : how < 4) (h0 : 0 < b) (hb : b < 2 ^ 40) (ht : t < 2 ^ 62) : kM_rounded (nL t) (nL b) (nI how) = nL (pr_rnd t b how) := by
  have hq : t / b < 2 ^ 62 := Nat.lt_of_le_of_lt (Nat.div_le_self t b) ht
  have hm : t % b < b := Nat.mod_lt t h0
  have e1 := Nat.div_add_mod t b
  have ed : nL t / nL b = nL (t / b) := nL_div (by omega) h0 (by omega)
  have er : nL t - nL (t / b) * nL b = nL (t % b) := by
    rw [nL_mul, nL_sub (by rw [Nat.mul_comm]; omega)]
    congr 1
    rw [Nat.mul_comm]
    omega
  have e2 : (2 : Int64) * nL (t % b) = nL (2 * (t % b)) := nL_mul 2 _
  have e3 : nL (t / b) / 2 = nL (t / b / 2) := nL_div (b := 2) (by omega) (by decide) (by decide)
  have e4 : nL (t / b) - nL (t / b / 2) * 2 = nL (t / b % 2) := by
    rw [show nL (t / b / 2) * 2 = nL (t / b / 2 * 2) from nL_mul _ 2, nL_sub (by omega)]
    congr 1
    omega
  have e5 : nL (t / b) + 1 = nL (t / b + 1) := nL_add _ 1
  unfold kM_rounded
  rw [ed, er, e2, e3, e4, e5]
  simp only [lg_cmp_le, lg_cmp_lt, lg_cmp_gt, lg_cmp_eq]
  rw [show ((0 : Int64)) = nL 0 from rfl, show ((1 : Int64)) = nL 1 from rfl]
  simp only [nL_leI (show t % b < 2 ^ 63 by omega) (show 0 < 2 ^ 63 by decide), nL_ltI (show 2 * (t % b) < 2 ^ 63 by omega) (show b < 2 ^ 63 by omega), nL_ltI (show b < 2 ^ 63 by omega) (show 2 * (t % b) < 2 ^ 63 by omega), nL_inj (show 2 * (t % b) < 2 ^ 63 by omega) (show b < 2 ^ 63 by omega), nL_inj (show t / b % 2 < 2 ^ 63 by omega) (show 1 < 2 ^ 63 by decide), show nI how = (1 : Int32) ↔ how = 1 from nI_inj (b := 1) (by omega) (by decide), show nI how = (2 : Int32) ↔ how = 2 from nI_inj (b := 2) (by omega) (by decide), show nI how = (3 : Int32) ↔ how = 3 from nI_inj (b := 3) (by omega) (by decide)]
  unfold pr_rnd pr_up
  repeat' split
  all_goals first | rfl | (exfalso; omega)
def pu_b (rule : Nat) : Nat := if rule = 0 then 365 else if rule = 3 then 133590 else 360
set_option maxRecDepth 4000 in
theorem pu_b_in (rule : Nat) : 360 ≤ pu_b rule ∧ pu_b rule ≤ 133590 := by
  unfold pu_b
  split
  · omega
  · split <;> omega
set_option maxRecDepth 4000 in
theorem pe_under {rule : Nat} (h : rule < 4) : kM_under (nI rule) = nL (pu_b rule) := by
  unfold kM_under pu_b
  simp only [show nI rule = (0 : Int32) ↔ rule = 0 from nI_inj (b := 0) (by omega) (by decide), show nI rule = (3 : Int32) ↔ rule = 3 from nI_inj (b := 3) (by omega) (by decide)]
  split
  · rfl
  · split <;> rfl
def pi_on (rate top rule how x : Nat) : Nat := pr_rnd (x * rate * top) (100000 * pu_b rule) how
set_option maxRecDepth 4000 in
theorem pi_prod {x rate top : Nat} (hx : x ≤ 100000000) (hr : rate ≤ 30000) (ht : top ≤ 1464000) : x * rate * top < 2 ^ 62 := by
  have h1 : x * rate ≤ 100000000 * 30000 := Nat.mul_le_mul hx hr
  have h2 : x * rate * top ≤ 100000000 * 30000 * 1464000 := Nat.mul_le_mul h1 ht
  omega
set_option maxRecDepth 4000 in
theorem pe_onM {x rate rule how a b : Nat} (hx : x ≤ 100000000) (hr : rate ≤ 30000) (hru : rule < 4) (hh : how < 4) (hab : a ≤ b) (hb : b < 4001) (ht : ps_top rule a b ≤ 1464000) : kM_interestOn (nI x) (nI rate) (nI a) (nI b) (nI rule) (nI how) = nI (pi_on rate (ps_top rule a b) rule how x) := by
  unfold kM_interestOn
  have hp := pi_prod hx hr ht
  have hu := pu_b_in rule
  rw [pe_span hru hab (by omega), pe_under hru, nL_of (by omega), nL_of (by omega), nL_mul, nL_mul, show (100000 : Int64) * nL (pu_b rule) = nL (100000 * pu_b rule) from nL_mul 100000 _, pe_rnd hh (by omega) (by omega) hp, nL_to]
  rfl
set_option maxRecDepth 4000 in
theorem pe_r4of {how : Nat} (h : how < 4) : pe_r4 (nI how) := by
  unfold pe_r4
  have hc : how = 0 ∨ how = 1 ∨ how = 2 ∨ how = 3 := by omega
  rcases hc with rfl | rfl | rfl | rfl
  · exact Or.inl rfl
  · exact Or.inr (Or.inl rfl)
  · exact Or.inr (Or.inr (Or.inl rfl))
  · exact Or.inr (Or.inr (Or.inr rfl))
set_option maxRecDepth 4000 in
theorem pe_on {x rate top rule how : Nat} (hx : x ≤ 100000000) (hr : rate ≤ 30000) (ht : top ≤ 1464000) (hru : rule < 4) (hh : how < 4) : kC_interestOn (nI x) (nI rate) (nI top) (nI rule) (nI how) = nI (pi_on rate top rule how x) := by
  unfold kC_interestOn
  have hp := pi_prod hx hr ht
  have hu := pu_b_in rule
  rw [pe_rounded (pe_r4of hh) (by rw [pe_bottom]; exact pe_bpos _), pe_bottom, pe_under hru, nL_of (by omega), nL_of (by omega), nL_of (by omega), nL_mul, nL_mul, show (100000 : Int64) * nL (pu_b rule) = nL (100000 * pu_b rule) from nL_mul 100000 _, pe_rnd hh (by omega) (by omega) hp, nL_to]
  rfl
set_option maxRecDepth 4000 in
theorem pi_on_up (rate top rule how : Nat) : pl_up (pi_on rate top rule how) := fun x y h => by
  have hu := pu_b_in rule
  exact pr_rnd_mono how (by omega) (Nat.mul_le_mul_right top (Nat.mul_le_mul_right rate h))
set_option maxRecDepth 4000 in
theorem pe_thir_step (d : Nat) : 30 * pm_month (d + 1) + min (pm_num (d + 1)) 30 ≤ 30 * pm_month d + min (pm_num d) 30 + 3 := by
  have h1 := pm_month_is d
  have h2 := pm_month_is (d + 1)
  have h3 := pm_first_succ (pm_month d)
  unfold pm_is at h1 h2
  unfold pm_num
  rcases Nat.lt_or_ge (d + 1) (pm_first (pm_month d + 1)) with q | q
  · have e : pm_month (d + 1) = pm_month d := pm_is_uniq (pm_month_is (d + 1)) ⟨by omega, q⟩
    rw [e]
    omega
  · have h4 := pm_first_succ (pm_month d + 1)
    have e : pm_month (d + 1) = pm_month d + 1 := pm_is_uniq (pm_month_is (d + 1)) ⟨by omega, by omega⟩
    rw [e]
    omega
set_option maxRecDepth 4000 in
theorem pe_thir_days {a b : Nat} (h : a ≤ b) : 30 * pm_month b + min (pm_num b) 30 ≤ 30 * pm_month a + min (pm_num a) 30 + 3 * (b - a) := by
  obtain ⟨n, rfl⟩ : ∃ n, b = a + n := ⟨b - a, by omega⟩
  clear h
  induction n with
  | zero => rw [Nat.add_zero]; omega
  | succ n ih =>
    have := pe_thir_step (a + n)
    rw [show a + (n + 1) = a + n + 1 by omega]
    omega
set_option maxRecDepth 4000 in
theorem ps_top_days {rule a b : Nat} (hr : rule < 4) (h : a ≤ b) : 360 * ps_top rule a b ≤ 3 * pu_b rule * (b - a) ∧ ps_top rule a b ≤ 366 * (b - a) := by
  unfold ps_top pu_b
  have h1 := pe_thir_days h
  have h2 := (pg_w_mono h).2
  have hc : rule = 0 ∨ rule = 1 ∨ rule = 2 ∨ rule = 3 := by omega
  rcases hc with rfl | rfl | rfl | rfl
  · rw [if_neg (by decide), if_neg (by decide), if_pos rfl]
    omega
  · rw [if_neg (by decide), if_neg (by decide), if_neg (by decide), if_neg (by decide)]
    omega
  · rw [if_pos rfl, if_neg (by decide), if_neg (by decide)]
    omega
  · rw [if_neg (by decide), if_pos rfl, if_neg (by decide), if_pos rfl]
    omega
set_option maxRecDepth 4000 in
theorem pi_days {x rate rule how a b : Nat} (hx : x ≤ 100000000) (hr : rate ≤ 30000) (hru : rule < 4) (h : a ≤ b) : pi_on rate (ps_top rule a b) rule how x ≤ 250001 * (b - a) := by
  have hu := pu_b_in rule
  have ht := (ps_top_days hru h).1
  have h1 : x * rate ≤ 100000000 * 30000 := Nat.mul_le_mul hx hr
  unfold pi_on
  by_cases e : b - a = 0
  · have e0 : ps_top rule a b = 0 := by
      have := (ps_top_days hru h).2
      omega
    rw [e0, Nat.mul_zero, pr_rnd_0 how (by omega)]
    omega
  · have h2 : x * rate * ps_top rule a b ≤ 100000000 * 30000 * ps_top rule a b := Nat.mul_le_mul_right _ h1
    have h3 : x * rate * ps_top rule a b ≤ (100000 * pu_b rule) * (250000 * (b - a)) := by
      have e2 : (100000 * pu_b rule) * (250000 * (b - a)) = 25000000000 * (pu_b rule * (b - a)) := by
        rw [Nat.mul_mul_mul_comm]
      have e3 : 3 * pu_b rule * (b - a) = 3 * (pu_b rule * (b - a)) := Nat.mul_assoc _ _ _
      rw [e2]
      rw [e3] at ht
      generalize pu_b rule * (b - a) = z at *
      omega
    have h4 := pr_rnd_le (x * rate * ps_top rule a b) (100000 * pu_b rule) how
    have h5 : x * rate * ps_top rule a b / (100000 * pu_b rule) ≤ 250000 * (b - a) := Nat.div_le_of_le_mul h3
    omega
