/-! pure: the level, by halving and bit by bit -/
def pt_list (rate rule how : Nat) (fr : Nat → Nat) : Nat → Nat → List (Nat → Nat)
  | _, 0 => []
  | i, r + 1 => pi_on rate (ps_top rule (fr i) (fr (i + 1))) rule how :: pt_list rate rule how fr (i + 1) r
set_option maxRecDepth 4000 in
theorem pt_list_up (rate rule how : Nat) (fr : Nat → Nat) : ∀ (r i : Nat), ∀ I ∈ pt_list rate rule how fr i r, pl_up I := by
  intro r
  induction r with
  | zero =>
    intro i I h
    cases h
  | succ r ih =>
    intro i I h
    rcases List.mem_cons.1 h with e | e
    · rw [e]
      exact pi_on_up _ _ _ _
    · exact ih (i + 1) I e
def pt_ok (fr : Nat → Nat) (cnt : Nat) : Prop := ∀ i, i < cnt → fr i ≤ fr (i + 1) ∧ fr (i + 1) ≤ fr i + 62 ∧ fr (i + 1) < 4001
set_option maxRecDepth 4000 in
theorem pt_top {rule cnt i : Nat} {fr : Nat → Nat} (hr : rule < 4) (h : pt_ok fr cnt) (hi : i < cnt) : ps_top rule (fr i) (fr (i + 1)) ≤ 1464000 := by
  have h1 := h i hi
  have h2 := (ps_top_days hr h1.1).2
  omega
set_option maxRecDepth 4000 in
theorem pt_int {x rate rule how cnt i : Nat} {fr : Nat → Nat} (hx : x ≤ 100000000) (hrt : rate ≤ 30000) (hr : rule < 4) (h : pt_ok fr cnt) (hi : i < cnt) : pi_on rate (ps_top rule (fr i) (fr (i + 1))) rule how x ≤ 16000000 := by
  have h1 := h i hi
  have h2 := pi_days (how := how) hx hrt hr h1.1
  omega
set_option maxRecDepth 4000 in
theorem pv_dle {a b : Nat} (ha : a < 2 ^ 30) (hb : b < 2 ^ 30) (z : Int32) (hz : z = 0) : (nI a - nI b ≤ z) ↔ a ≤ b := by
  subst hz
  rw [Int32.le_iff_toInt_le, pk_sub_toInt ha hb]
  show (a : Int) - b ≤ 0 ↔ _
  omega
set_option maxRecDepth 4000 in
theorem pv_0lt {a : Nat} (ha : a < 2 ^ 31) : nI a ≤ (0 : Int32) ↔ a = 0 := by
  have h := nI_leI (b := 0) ha (by decide)
  exact h.trans (by omega)
set_option maxRecDepth 4000 in
theorem pv_left {σ : KS} {am : Int32} {rate rule how cnt tried : Nat} {fr : Nat → Nat} (h10 : σ 0 10 = nI rate) (h12 : σ 0 12 = nI rule) (h13 : σ 0 13 = nI how) (hrt : rate ≤ 30000) (hr : rule < 4) (hh : how < 4) (hc : cnt ≤ 36) (hok : pt_ok fr cnt) (h3 : ∀ i, i < cnt → σ 3 i = nI (ps_top rule (fr i) (fr (i + 1)))) (htr : tried < 2 ^ 29) : ∀ (n r i left : Nat), i + r = cnt → r ≤ n → left ≤ 100000000 → lf_left σ am (nI tried) (nI cnt) (n + 1) (nI left) (nI i) = nI (pl_end (pt_list rate rule how fr i r) tried left) := by
  intro n
  induction n with
  | zero =>
    intro r i left hir hn hl
    have e : r = 0 := by omega
    subst e
    unfold lf_left
    rw [if_pos ((nI_leI (by omega) (by omega)).2 (by omega))]
    rfl
  | succ n ih =>
    intro r i left hir hn hl
    unfold lf_left
    cases r with
    | zero =>
      rw [if_pos ((nI_leI (by omega) (by omega)).2 (by omega))]
      rfl
    | succ r =>
      have hi : i < cnt := by omega
      have hI := pt_int (how := how) hl hrt hr hok hi
      rw [if_neg (fun h => absurd ((nI_leI (by omega) (by omega)).1 h) (by omega))]
      rw [if_neg (show ¬ (36 : Int32) ≤ nI i from fun h => absurd ((nI_leI (a := 36) (by decide) (by omega)).1 h) (by omega))]
      rw [nI_clamp (by omega), h3 i hi, h10, h12, h13, pe_on hl hrt (pt_top hr hok hi) hr hh, nI_1]
      show _ = nI (pl_end (pt_list rate rule how fr (i + 1) r) tried (pl_next (pi_on rate (ps_top rule (fr i) (fr (i + 1))) rule how) tried left))
      unfold pl_next
      generalize hg : pi_on rate (ps_top rule (fr i) (fr (i + 1))) rule how left = I at *
      by_cases hle : tried ≤ I
      · rw [if_pos ((pv_dle (by omega) (by omega) 0 rfl).2 hle), show left - (tried - I) = left by omega]
        exact ih r (i + 1) left (by omega) (by omega) hl
      · rw [if_neg (fun h => hle ((pv_dle (by omega) (by omega) 0 rfl).1 h)), pk_sub (by omega), pe_kmin (by omega) (by omega), pk_sub (by omega), show left - min (tried - I) left = left - (tried - I) by omega]
        exact ih r (i + 1) (left - (tried - I)) (by omega) (by omega) (by omega)
set_option maxRecDepth 4000 in
theorem pv_leftInTheEnd {σ : KS} {rate rule how cnt tried amount : Nat} {fr : Nat → Nat} (h10 : σ 0 10 = nI rate) (h12 : σ 0 12 = nI rule) (h13 : σ 0 13 = nI how) (hrt : rate ≤ 30000) (hr : rule < 4) (hh : how < 4) (hc : cnt ≤ 36) (hok : pt_ok fr cnt) (h3 : ∀ i, i < cnt → σ 3 i = nI (ps_top rule (fr i) (fr (i + 1)))) (htr : tried < 2 ^ 29) (ha : amount ≤ 100000000) : kN_leftInTheEnd σ (nI amount) (nI tried) (nI cnt) = nI (pl_end (pt_list rate rule how fr 0 cnt) tried amount) :=
  pv_left h10 h12 h13 hrt hr hh hc hok h3 htr 36 cnt 0 amount (by omega) hc ha
def pv_P (rate rule how : Nat) (fr : Nat → Nat) (cnt amount : Nat) (x : Nat) : Bool := decide (0 < pl_end (pt_list rate rule how fr 0 cnt) x amount)
set_option maxRecDepth 4000 in
theorem pv_least {σ : KS} {rate rule how cnt amount : Nat} {fr : Nat → Nat} (h10 : σ 0 10 = nI rate) (h12 : σ 0 12 = nI rule) (h13 : σ 0 13 = nI how) (hrt : rate ≤ 30000) (hr : rule < 4) (hh : how < 4) (hc : cnt ≤ 36) (hok : pt_ok fr cnt) (h3 : ∀ i, i < cnt → σ 3 i = nI (ps_top rule (fr i) (fr (i + 1)))) (ha : amount ≤ 100000000) : ∀ (n lo hi : Nat), n ≤ 32 → lo ≤ hi → hi < 2 ^ 29 → lf_least σ (nI amount) (nI cnt) (n + 1) (nI lo) (nI hi) (nI (32 - n)) = nI (pl_bis (pv_P rate rule how fr cnt amount) n lo hi) := by
  intro n
  induction n with
  | zero =>
    intro lo hi hn hlo hhi
    unfold lf_least
    rw [if_pos (show (32 : Int32) ≤ nI (32 - 0) by decide)]
    rfl
  | succ n ih =>
    intro lo hi hn hlo hhi
    unfold lf_least
    rw [if_neg (show ¬ (32 : Int32) ≤ nI (32 - (n + 1)) from fun h => absurd ((nI_leI (a := 32) (by decide) (by omega)).1 h) (by omega)), pk_sub hlo]
    unfold pl_bis
    by_cases h1 : 1 < hi - lo
    · rw [if_pos h1, if_neg (show ¬ nI (hi - lo) ≤ 1 from fun h => absurd ((nI_leI (b := 1) (by omega) (by decide)).1 h) (by omega))]
      rw [show nI (hi - lo) / 2 = nI ((hi - lo) / 2) from pk_div (d := 2) (by omega) (by decide) (by decide), nI_add, nI_1, show 32 - (n + 1) + 1 = 32 - n by omega]
      rw [pv_leftInTheEnd h10 h12 h13 hrt hr hh hc hok h3 (by omega) ha]
      have hle := pl_end_le (pt_list rate rule how fr 0 cnt) (lo + (hi - lo) / 2) amount
      have hz := pv_0lt (a := pl_end (pt_list rate rule how fr 0 cnt) (lo + (hi - lo) / 2) amount) (by omega)
      by_cases hp : pv_P rate rule how fr cnt amount (lo + (hi - lo) / 2) = true
      · have hp' := of_decide_eq_true hp
        rw [if_pos hp, if_neg (fun h => absurd (hz.1 h) (by omega))]
        exact ih _ _ (by omega) (by omega) hhi
      · have hp' : ¬ 0 < pl_end (pt_list rate rule how fr 0 cnt) (lo + (hi - lo) / 2) amount := fun h => hp (decide_eq_true h)
        rw [if_neg hp, if_pos (hz.2 (by omega))]
        exact ih _ _ (by omega) (by omega) (by omega)
    · rw [if_neg h1, if_pos (show nI (hi - lo) ≤ 1 from (nI_leI (b := 1) (by omega) (by decide)).2 (by omega))]
set_option maxRecDepth 4000 in
theorem pv_thr {rate rule how cnt amount : Nat} {fr : Nat → Nat} (h0 : 0 < amount) (hc : 0 < cnt) : ∃ t, 1 ≤ t ∧ t ≤ amount + pi_on rate (ps_top rule (fr 0) (fr 1)) rule how amount ∧ pl_is (fun x => pv_P rate rule how fr cnt amount x = true) t := by
  obtain ⟨r, rfl⟩ : ∃ r, cnt = r + 1 := ⟨cnt - 1, by omega⟩
  have hn : ¬ (fun x => pv_P rate rule how fr (r + 1) amount x = true) (amount + pi_on rate (ps_top rule (fr 0) (fr 1)) rule how amount) := fun h => by
    have h1 := of_decide_eq_true h
    have h2 := pl_end_enough (pi_on rate (ps_top rule (fr 0) (fr 1)) rule how) (pt_list rate rule how fr 1 r) amount
    have h3 : pl_end (pt_list rate rule how fr 0 (r + 1)) (amount + pi_on rate (ps_top rule (fr 0) (fr 1)) rule how amount) amount = 0 := h2
    omega
  obtain ⟨t, ht, hi⟩ := pl_is_ex (P := fun x => pv_P rate rule how fr (r + 1) amount x = true) (fun x y hxy hy => decide_eq_true (Nat.lt_of_lt_of_le (of_decide_eq_true hy) (pl_end_mono (pt_list_up rate rule how fr (r + 1) 0) hxy (Nat.le_refl amount)))) hn
  refine ⟨t, ?_, ht, hi⟩
  have hz : (fun x => pv_P rate rule how fr (r + 1) amount x = true) 0 := decide_eq_true (by rw [pl_end_L0]; exact h0)
  exact (hi 0).1 hz
set_option maxRecDepth 4000 in
theorem pv_leastLevel {σ : KS} {rate rule how cnt amount t : Nat} {fr : Nat → Nat} (h10 : σ 0 10 = nI rate) (h12 : σ 0 12 = nI rule) (h13 : σ 0 13 = nI how) (hrt : rate ≤ 30000) (hr : rule < 4) (hh : how < 4) (hc : cnt ≤ 36) (hc0 : 0 < cnt) (hok : pt_ok fr cnt) (h3 : ∀ i, i < cnt → σ 3 i = nI (ps_top rule (fr i) (fr (i + 1)))) (ha : amount ≤ 100000000) (ht1 : 1 ≤ t) (ht2 : t ≤ amount + pi_on rate (ps_top rule (fr 0) (fr 1)) rule how amount) (ht : pl_is (fun x => pv_P rate rule how fr cnt amount x = true) t) : kN_leastLevel σ (nI amount) (nI cnt) = nI t := by
  unfold kN_leastLevel
  have hI := pt_int (how := how) ha hrt hr hok hc0
  rw [Nat.zero_add] at hI
  have e3 := h3 0 hc0
  rw [Nat.zero_add] at e3
  have htop := pt_top hr hok hc0
  rw [Nat.zero_add] at htop
  rw [e3, h10, h12, h13, pe_on ha hrt htop hr hh, nI_add]
  have h := pv_least h10 h12 h13 hrt hr hh hc hok h3 ha 32 0 (amount + pi_on rate (ps_top rule (fr 0) (fr 1)) rule how amount) (Nat.le_refl _) (Nat.zero_le _) (by omega)
  rw [pl_bis_is ht 32 0 _ ht1 ht2 (by omega)] at h
  exact h
/-! the reference -/
set_option maxRecDepth 4000 in
theorem pv_lv {σ : KS} {ln am jj : Int32} {rate rule how cnt tried o K mon : Nat} {fr : Nat → Nat} (h1 : σ 1 ln.toNatClampNeg = nI o) (h2 : σ 2 ln.toNatClampNeg = nI rate) (hm : σ 3 ln.toNatClampNeg = nI mon) (h4 : σ 4 ln.toNatClampNeg = nI rule) (h5 : σ 5 ln.toNatClampNeg = nI how) (hrt : rate ≤ 30000) (hr : rule < 4) (hh : how < 4) (ho : o < 30000) (hmon : mon ≤ 36) (hcm : K + cnt = mon) (hok : pt_ok fr cnt) (hfr : ∀ i, i < cnt → fr (i + 1) = pm_due o (K + 1 + i)) (htr : tried < 2 ^ 29) : ∀ (n r i left : Nat), i + r = cnt → r ≤ n → left ≤ 100000000 → lf_lv σ ln am jj (nI tried) (n + 1) (nI left) (nI (fr i)) (nI (K + 1 + i)) = if 0 < pl_end (pt_list rate rule how fr i r) tried left then 1 else 0 := by
  intro n
  induction n with
  | zero =>
    intro r i left hir hn hl
    have e : r = 0 := by omega
    subst e
    unfold lf_lv
    rw [hm, if_pos (nI_lt (by omega) (by omega))]
    have hz := pv_0lt (a := left) (by omega)
    show _ = if 0 < left then (1 : Int32) else 0
    by_cases q : left = 0
    · rw [if_pos (hz.2 q), if_neg (by omega)]
    · rw [if_neg (fun h => q (hz.1 h)), if_pos (by omega)]
  | succ n ih =>
    intro r i left hir hn hl
    have hz := pv_0lt (a := left) (by omega)
    unfold lf_lv
    cases r with
    | zero =>
      rw [hm, if_pos (nI_lt (by omega) (by omega))]
      show _ = if 0 < left then (1 : Int32) else 0
      by_cases q : left = 0
      · rw [if_pos (hz.2 q), if_neg (by omega)]
      · rw [if_neg (fun h => q (hz.1 h)), if_pos (by omega)]
    | succ r =>
      have hi : i < cnt := by omega
      rw [hm, if_neg (nI_nlt (by omega) (by omega))]
      by_cases q : left = 0
      · rw [if_pos (hz.2 q), if_pos (hz.2 q), q, pl_end_0, if_neg (by decide)]
      · rw [if_neg (fun h => q (hz.1 h))]
        have hI := pt_int (how := how) hl hrt hr hok hi
        have hok1 := hok i hi
        have hdue : kM_dueDay (σ 1 ln.toNatClampNeg) (nI (K + 1 + i)) = nI (fr (i + 1)) := by
          rw [h1, pe_dueDay ho (by omega), hfr i hi]
        have hown : kM_own σ ln (nI left) (nI (fr i)) (nI (fr (i + 1))) = nI (pi_on rate (ps_top rule (fr i) (fr (i + 1))) rule how left) := by
          unfold kM_own
          rw [h2, h4, h5]
          exact pe_onM hl hrt hr hh hok1.1 hok1.2.2 (pt_top hr hok hi)
        rw [hdue, hown, nI_1]
        show _ = if 0 < pl_end (pt_list rate rule how fr (i + 1) r) tried (pl_next (pi_on rate (ps_top rule (fr i) (fr (i + 1))) rule how) tried left) then (1 : Int32) else 0
        unfold pl_next
        generalize hg : pi_on rate (ps_top rule (fr i) (fr (i + 1))) rule how left = I at *
        have hpos : ((0 : Int32) < nI tried - nI I) ↔ I < tried := by
          rw [Int32.lt_iff_toInt_lt, pk_sub_toInt (by omega) (by omega)]
          show (0 : Int) < _ ↔ _
          omega
        by_cases hle : tried ≤ I
        · rw [if_neg (fun h => absurd (hpos.1 h) (by omega)), show left - (tried - I) = left by omega]
          exact ih r (i + 1) left (by omega) (by omega) hl
        · rw [if_pos (hpos.2 (by omega)), pk_sub (by omega)]
          by_cases hx : tried - I ≤ left
          · rw [if_pos ((nI_leI (by omega) (by omega)).2 hx), pk_sub hx]
            exact ih r (i + 1) (left - (tried - I)) (by omega) (by omega) (by omega)
          · rw [if_neg (fun h => hx ((nI_leI (by omega) (by omega)).1 h)), show left - (tried - I) = 0 by omega]
            exact ih r (i + 1) 0 (by omega) (by omega) (by omega)
set_option maxRecDepth 4000 in
theorem pv_leaves {σ : KS} {ln : Int32} {rate rule how cnt tried o K mon t amount : Nat} {fr : Nat → Nat} (h01 : σ 0 1 = nI t) (h1 : σ 1 ln.toNatClampNeg = nI o) (h2 : σ 2 ln.toNatClampNeg = nI rate) (hm : σ 3 ln.toNatClampNeg = nI mon) (h4 : σ 4 ln.toNatClampNeg = nI rule) (h5 : σ 5 ln.toNatClampNeg = nI how) (hrt : rate ≤ 30000) (hr : rule < 4) (hh : how < 4) (ho : o < 30000) (hmon : mon ≤ 36) (hcm : K + cnt = mon) (hok : pt_ok fr cnt) (hfr : ∀ i, i < cnt → fr (i + 1) = pm_due o (K + 1 + i)) (hfr0 : fr 0 = t) (htr : tried < 2 ^ 29) (ha : amount ≤ 100000000) : kM_leaves σ ln (nI amount) (nI (K + 1)) (nI tried) = if pv_P rate rule how fr cnt amount tried = true then 1 else 0 := by
  unfold kM_leaves
  rw [nI_toInt (by omega), show ((37 - ((K + 1 : Nat) : Int)).toNat) = 36 - K by omega, h01, ← hfr0]
  have h := pv_lv (am := nI amount) (jj := nI (K + 1)) h1 h2 hm h4 h5 hrt hr hh ho hmon hcm hok hfr htr (36 - K) cnt 0 amount (by omega) (by omega) ha
  rw [Nat.add_zero] at h
  rw [h]
  unfold pv_P
  simp only [decide_eq_true_eq]
def pv_set8 (σ : KS) (i : Nat) (v : Int32) : KS := mkM (σ 0 0) (σ 0 1) (σ 0 2) (σ 0 3) (σ 0 4) (σ 0 5) (σ 1) (σ 2) (σ 3) (σ 4) (σ 5) (σ 6) (σ 7) (upd (σ 8) i v) (σ 9) (σ 10) (σ 11) (σ 12) (σ 13) (σ 14) (σ 15) (σ 16) (σ 17) (σ 18) (σ 19) (σ 20) (σ 21) (σ 22)
set_option maxRecDepth 4000 in
theorem pv_rk {σ : KS} {ln : Int32} {rate rule how cnt o K mon t amount : Nat} {fr : Nat → Nat} (h01 : σ 0 1 = nI t) (h1 : σ 1 ln.toNatClampNeg = nI o) (h2 : σ 2 ln.toNatClampNeg = nI rate) (hm : σ 3 ln.toNatClampNeg = nI mon) (h4 : σ 4 ln.toNatClampNeg = nI rule) (h5 : σ 5 ln.toNatClampNeg = nI how) (hrt : rate ≤ 30000) (hr : rule < 4) (hh : how < 4) (ho : o < 30000) (hmon : mon ≤ 36) (hcm : K + cnt = mon) (hok : pt_ok fr cnt) (hfr : ∀ i, i < cnt → fr (i + 1) = pm_due o (K + 1 + i)) (hfr0 : fr 0 = t) (ha : amount ≤ 100000000) : ∀ (n most : Nat), n ≤ 28 → most + 2 ^ n ≤ 2 ^ 28 → lf_rk σ ln (nI amount) (n + 1) (nI (K + 1)) (nI most) (nI (2 ^ n / 2)) = pv_set8 σ ln.toNatClampNeg (nI (pl_bits (pv_P rate rule how fr cnt amount) n most + 1)) := by
  intro n
  induction n with
  | zero =>
    intro most hn hmo
    unfold lf_rk
    rw [if_pos (show nI (2 ^ 0 / 2) ≤ (0 : Int32) by decide), nI_1]
    rfl
  | succ n ih =>
    intro most hn hmo
    have hp : 2 ^ (n + 1) = 2 ^ n * 2 := Nat.pow_succ 2 n
    have hpos : 0 < 2 ^ n := Nat.pos_of_ne_zero (by simp)
    have e1 : 2 ^ (n + 1) / 2 = 2 ^ n := by omega
    unfold lf_rk
    rw [e1, if_neg (fun h => absurd ((pv_0lt (by omega)).1 h) (by omega)), nI_add]
    rw [pv_leaves h01 h1 h2 hm h4 h5 hrt hr hh ho hmon hcm hok hfr hfr0 (by omega) ha]
    rw [show nI (2 ^ n) / 2 = nI (2 ^ n / 2) from pk_div (d := 2) (by omega) (by decide) (by decide)]
    unfold pl_bits
    by_cases q : pv_P rate rule how fr cnt amount (most + 2 ^ n) = true
    · rw [if_pos q, if_pos q, if_neg (show ¬ (1 : Int32) = 0 by decide)]
      exact ih (most + 2 ^ n) (by omega) (by omega)
    · rw [if_neg q, if_neg q, if_pos (rfl : (0 : Int32) = 0)]
      exact ih most (by omega) (by omega)
set_option maxRecDepth 4000 in
theorem pv_reckon {σ : KS} {ln : Int32} {rate rule how cnt o K mon t amount lv : Nat} {fr : Nat → Nat} (h01 : σ 0 1 = nI t) (h1 : σ 1 ln.toNatClampNeg = nI o) (h2 : σ 2 ln.toNatClampNeg = nI rate) (hm : σ 3 ln.toNatClampNeg = nI mon) (h4 : σ 4 ln.toNatClampNeg = nI rule) (h5 : σ 5 ln.toNatClampNeg = nI how) (hrt : rate ≤ 30000) (hr : rule < 4) (hh : how < 4) (ho : o < 30000) (hmon : mon ≤ 36) (hcm : K + cnt = mon) (hok : pt_ok fr cnt) (hfr : ∀ i, i < cnt → fr (i + 1) = pm_due o (K + 1 + i)) (hfr0 : fr 0 = t) (ha0 : 0 < amount) (ha : amount ≤ 100000000) (hc0 : 0 < cnt) (hfb : kM_firstBehind σ ln = nI (K + 1)) (ht1 : 1 ≤ lv) (ht2 : lv ≤ 2 ^ 28) (ht : pl_is (fun x => pv_P rate rule how fr cnt amount x = true) lv) : kM_reckon σ ln (nI amount) = pv_set8 σ ln.toNatClampNeg (nI lv) := by
  unfold kM_reckon
  rw [if_neg (nI_ne0 ha0 (by omega)), hfb, hm, if_pos ((nI_leI (by omega) (by omega)).2 (by omega))]
  have h := pv_rk h01 h1 h2 hm h4 h5 hrt hr hh ho hmon hcm hok hfr hfr0 ha 28 0 (Nat.le_refl _) (by omega)
  rw [pl_bits_is ht 28 0 ht1 (by omega)] at h
  exact h
