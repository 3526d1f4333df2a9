/-! pure: what every call answers, both sides -/
def wc (c : Int32) : Int32 := if c = 0 then 0 else if c = 1 then 2 else 3
def ra (Ls : kLs) (t : Nat) (x : Int32) (kd : KS → Int32 × Int32 × KS) (m : Int32 × KS) : Prop := (∃ (i : Nat) (y : (Nat → Nat) × KS), Ls[i]? = some y ∧ x = nI i ∧ m.2 0 0 = wc (kd y.2).1 ∧ ((kd y.2).1 = 0 → (kd y.2).2.1 = m.1 ∧ rd (Ls.set i (y.1, (kd y.2).2.2)) m.2 t) ∧ (¬ (kd y.2).1 = 0 → rd Ls m.2 t)) ∨ ((x < 0 ∨ ¬ x < nI Ls.length) ∧ m.2 0 0 = 1 ∧ rd Ls m.2 t)
set_option maxRecDepth 4000 in
theorem rd_none {Ls : kLs} {σ : KS} {t : Nat} (h : rd Ls σ t) (x : Int32) : (kM_none σ x = 0 ∧ ∃ (i : Nat) (y : (Nat → Nat) × KS), i < 3 ∧ Ls[i]? = some y ∧ x = nI i) ∨ (¬ kM_none σ x = 0 ∧ (x < 0 ∨ ¬ x < nI Ls.length)) := by
  obtain ⟨h1, h2, h3, h4, h5, h6⟩ := h
  unfold kM_none kM_within
  rw [h3]
  have n1 : ¬ (1 : Int32) = 0 := by decide
  by_cases q : x < 0
  · refine Or.inr ⟨?_, Or.inl q⟩
    rw [if_pos q, if_pos rfl]
    exact n1
  · rw [if_neg q]
    have q2 := Int32.le_iff_toInt_le.1 (Int32.not_lt.1 q)
    have q3 : (0 : Int) ≤ x.toInt := q2
    have q4 := Int32.toInt_lt x
    obtain ⟨m, hm, rfl⟩ : ∃ m : Nat, m < 2 ^ 31 ∧ x = nI m := ⟨x.toInt.toNat, by omega, i32_of (by omega) (by omega)⟩
    by_cases hl : m < Ls.length
    · refine Or.inl ⟨?_, m, Ls[m], by omega, List.getElem?_eq_getElem hl, rfl⟩
      obtain ⟨k, hk⟩ : ∃ k, Ls.length = k + 1 := ⟨Ls.length - 1, by omega⟩
      rw [hk, nI_pred, if_neg (nI_nlt (by omega) (by omega)), if_neg n1]
    · refine Or.inr ⟨?_, Or.inr (nI_nlt (by omega) hm)⟩
      by_cases h0 : Ls.length = 0
      · rw [h0, if_pos (show nI 0 - 1 < nI m from Int32.lt_iff_toInt_lt.2 (by rw [nI_toInt hm]; show (-1 : Int) < m; omega)), if_pos rfl]
        exact n1
      · obtain ⟨k, hk⟩ : ∃ k, Ls.length = k + 1 := ⟨Ls.length - 1, by omega⟩
        rw [hk, nI_pred, if_pos (nI_lt (by omega) hm), if_pos rfl]
        exact n1
set_option maxRecDepth 4000 in
theorem rd_set {Ls : kLs} {τ : KS} {t i : Nat} {y : (Nat → Nat) × KS} (h : rd Ls τ t) (hy : Ls[i]? = some y) : rd (Ls.set i (y.1, y.2)) τ t := by
  obtain ⟨hi, e⟩ := List.getElem?_eq_some_iff.1 hy
  have : Ls.set i (y.1, y.2) = Ls := by
    rw [show (y.1, y.2) = Ls[i] from e.symm]
    exact List.set_getElem_self hi
  rw [this]
  exact h
set_option maxRecDepth 4000 in
theorem ra_no {Ls : kLs} {t : Nat} {x : Int32} {kd : KS → Int32 × Int32 × KS} {m : Int32 × KS} (hx : x < 0 ∨ ¬ x < nI Ls.length) (h1 : m.2 0 0 = 1) (h2 : rd Ls m.2 t) : ra Ls t x kd m := Or.inr ⟨hx, h1, h2⟩
set_option maxRecDepth 4000 in
theorem ra_get {Ls : kLs} {σ : KS} {t : Nat} (h : rd Ls σ t) (x : Int32) (f : KS → Int32) (m : Int32 × KS) (a : Nat) (hm : m = (kM_seen (kM_at σ x).2 x ((kM_at σ x).2 a (kM_at σ x).1.toNatClampNeg), (kM_at σ x).2)) (ha : a ≤ 22) (ha1 : 1 ≤ a) (hf : ∀ (i : Nat) (S : KS), rl_ok S σ i t → f S = σ a i) : ra Ls t x (fun S => (0, f S, S)) m := by
  subst hm
  unfold kM_at
  rcases rd_none h x with ⟨e, i, y, hi, hy, rfl⟩ | ⟨e, hx⟩
  · refine Or.inl ⟨i, y, hy, rfl, ?_, fun _ => ⟨?_, ?_⟩, fun q => absurd rfl q⟩
    · rw [if_pos e]
      rfl
    · rw [if_pos e]
      show f y.2 = (if kM_none σ (nI i) = 0 then _ else (0 : Int32))
      rw [if_pos e, ix_ln hi, hf i y.2 (h.2.2.2.2.1 i y hy)]
      have hc : a = 1 ∨ a = 2 ∨ a = 3 ∨ a = 4 ∨ a = 5 ∨ a = 6 ∨ a = 7 ∨ a = 8 ∨ a = 9 ∨ a = 10 ∨ a = 11 ∨ a = 12 ∨ a = 13 ∨ a = 14 ∨ a = 15 ∨ a = 16 ∨ a = 17 ∨ a = 18 ∨ a = 19 ∨ a = 20 ∨ a = 21 ∨ a = 22 := by omega
      rcases hc with rfl | rfl | rfl | rfl | rfl | rfl | rfl | rfl | rfl | rfl | rfl | rfl | rfl | rfl | rfl | rfl | rfl | rfl | rfl | rfl | rfl | rfl <;> rfl
    · rw [if_pos e]
      exact rd_set (τ := mkM 0 (σ 0 1) (σ 0 2) (σ 0 3) (σ 0 4) (σ 0 5) (σ 1) (σ 2) (σ 3) (σ 4) (σ 5) (σ 6) (σ 7) (σ 8) (σ 9) (σ 10) (σ 11) (σ 12) (σ 13) (σ 14) (σ 15) (σ 16) (σ 17) (σ 18) (σ 19) (σ 20) (σ 21) (σ 22)) h hy
  · rw [if_neg e]
    exact ra_no hx rfl h
set_option maxRecDepth 4000 in
theorem rd_principal {Ls : kLs} {σ : KS} {t : Nat} (h : rd Ls σ t) (x : Int32) : ra Ls t x (fun S => (0, kD_principal S (nI t) x, S)) (kM_principal σ x) := ra_get h x (fun S => kD_principal S (nI t) x) _ 7 rfl (by decide) (by decide) (fun i S hr => by
  obtain ⟨o, K, ⟨rate, mon, rule, how, p, lv, ac, u, w0, w1, w2, w3, dp, cg, nb, nf, bl, bd, hT, hM, hA, hB, hP, hD, hN⟩, _⟩ := hr
  exact hM.1.1.trans hM.1.2.symm)
set_option maxRecDepth 4000 in
theorem rd_level {Ls : kLs} {σ : KS} {t : Nat} (h : rd Ls σ t) (x : Int32) : ra Ls t x (fun S => (0, kD_level S (nI t) x, S)) (kM_level σ x) := ra_get h x (fun S => kD_level S (nI t) x) _ 8 rfl (by decide) (by decide) (fun i S hr => by
  obtain ⟨o, K, ⟨rate, mon, rule, how, p, lv, ac, u, w0, w1, w2, w3, dp, cg, nb, nf, bl, bd, hT, hM, hA, hB, hP, hD, hN⟩, _⟩ := hr
  exact hM.2.1.1.trans hM.2.1.2.symm)
set_option maxRecDepth 4000 in
theorem rd_escrow {Ls : kLs} {σ : KS} {t : Nat} (h : rd Ls σ t) (x : Int32) : ra Ls t x (fun S => (0, kD_escrow S (nI t) x, S)) (kM_escrow σ x) := ra_get h x (fun S => kD_escrow S (nI t) x) _ 11 rfl (by decide) (by decide) (fun i S hr => by
  obtain ⟨o, K, ⟨rate, mon, rule, how, p, lv, ac, u, w0, w1, w2, w3, dp, cg, nb, nf, bl, bd, hT, hM, hA, hB, hP, hD, hN⟩, _⟩ := hr
  exact hA.1.1.trans hA.1.2.symm)
set_option maxRecDepth 4000 in
theorem rd_deposit {Ls : kLs} {σ : KS} {t : Nat} (h : rd Ls σ t) (x : Int32) : ra Ls t x (fun S => (0, kD_deposit S (nI t) x, S)) (kM_deposit σ x) := ra_get h x (fun S => kD_deposit S (nI t) x) _ 13 rfl (by decide) (by decide) (fun i S hr => by
  obtain ⟨o, K, ⟨rate, mon, rule, how, p, lv, ac, u, w0, w1, w2, w3, dp, cg, nb, nf, bl, bd, hT, hM, hA, hB, hP, hD, hN⟩, _⟩ := hr
  exact hA.2.1.1.trans hA.2.1.2.symm)
set_option maxRecDepth 4000 in
theorem rd_bills {Ls : kLs} {σ : KS} {t : Nat} (h : rd Ls σ t) (x : Int32) : ra Ls t x (fun S => (0, kD_bills S (nI t) x, S)) (kM_bills σ x) := ra_get h x (fun S => kD_bills S (nI t) x) _ 17 rfl (by decide) (by decide) (fun i S hr => by
  obtain ⟨nb, _, e1, e2⟩ := rl_pk hr
  exact e1.trans e2.symm)
set_option maxRecDepth 4000 in
theorem rd_accrued {Ls : kLs} {σ : KS} {t : Nat} (h : rd Ls σ t) (x : Int32) : ra Ls t x (fun S => (0, kD_accrued S (nI t) x, S)) (kM_accrued σ x) := by
  unfold kM_accrued kM_at
  rcases rd_none h x with ⟨e, i, y, hi, hy, rfl⟩ | ⟨e, hx⟩
  · rw [if_pos e, if_pos (show kM_none (mkM 0 (σ 0 1) (σ 0 2) (σ 0 3) (σ 0 4) (σ 0 5) (σ 1) (σ 2) (σ 3) (σ 4) (σ 5) (σ 6) (σ 7) (σ 8) (σ 9) (σ 10) (σ 11) (σ 12) (σ 13) (σ 14) (σ 15) (σ 16) (σ 17) (σ 18) (σ 19) (σ 20) (σ 21) (σ 22)) (nI i) = 0 from e)]
    refine Or.inl ⟨i, y, hy, rfl, rfl, fun _ => ⟨?_, rd_set (τ := mkM 0 (σ 0 1) (σ 0 2) (σ 0 3) (σ 0 4) (σ 0 5) (σ 1) (σ 2) (σ 3) (σ 4) (σ 5) (σ 6) (σ 7) (σ 8) (σ 9) (σ 10) (σ 11) (σ 12) (σ 13) (σ 14) (σ 15) (σ 16) (σ 17) (σ 18) (σ 19) (σ 20) (σ 21) (σ 22)) h hy⟩, fun q => absurd rfl q⟩
    obtain ⟨o, K, ⟨rate, mon, rule, how, p, lv, ac, u, w0, w1, w2, w3, dp, cg, nb, nf, bl, bd, hT, hM, hA, hB, hP, hD, hN⟩, _⟩ := h.2.2.2.2.1 i y hy
    have hc := pc_accr hi hT hM hN.1.1 hN.1.2.2.2.1 h.1 h.2.1
    show kN_accruedBy y.2 (nI t) = σ 9 (nI i).toNatClampNeg + kM_own σ (nI i) (σ 7 (nI i).toNatClampNeg) (σ 10 (nI i).toNatClampNeg) (σ 0 1)
    rw [ix_ln hi, hc.1, hc.2]
  · rw [if_neg e, if_neg (show ¬ kM_none (mkM 1 (σ 0 1) (σ 0 2) (σ 0 3) (σ 0 4) (σ 0 5) (σ 1) (σ 2) (σ 3) (σ 4) (σ 5) (σ 6) (σ 7) (σ 8) (σ 9) (σ 10) (σ 11) (σ 12) (σ 13) (σ 14) (σ 15) (σ 16) (σ 17) (σ 18) (σ 19) (σ 20) (σ 21) (σ 22)) x = 0 from e)]
    exact ra_no hx rfl h
set_option maxRecDepth 4000 in
theorem rl_agree {S σ : KS} {i o K t c : Nat} (h : rl S σ i o K K t) (hc : c ≤ 10000000) : rl (kA_agreeOn S (nI c)) (mkM 0 (σ 0 1) (σ 0 2) (σ 0 3) (σ 0 4) (σ 0 5) (σ 1) (σ 2) (σ 3) (σ 4) (σ 5) (σ 6) (σ 7) (σ 8) (σ 9) (σ 10) (σ 11) (upd (σ 12) i (nI c)) (upd (σ 13) i (kM_twelfth (nI c))) (σ 14) (σ 15) (σ 16) (σ 17) (σ 18) (σ 19) (σ 20) (σ 21) (σ 22)) i o K K t := by
  obtain ⟨rate, mon, rule, how, p, lv, ac, u, w0, w1, w2, w3, dp, cg, nb, nf, bl, bd, hT, hM, hA, hB, hP, hD, n1, n2, ⟨n3, n4, n5, n6⟩, n7⟩ := h
  have e := pc_twelfth (d := c) (by omega)
  exact ⟨rate, mon, rule, how, p, lv, ac, u, w0, w1, w2, w3, (c + 11) / 12, c, nb, nf, bl, bd, hT, hM, ⟨hA.1, ⟨e, (up_eq _ _ _).trans e⟩, ⟨rfl, up_eq _ _ _⟩⟩, hB, hP, hD, n1, n2, ⟨n3, n4, by omega, hc⟩, n7⟩
set_option maxRecDepth 4000 in
theorem rd_charge {Ls : kLs} {σ : KS} {t : Nat} (h : rd Ls σ t) (x c : Int32) : ra Ls t x (fun S => kD_charge S (nI t) x c) (0, kM_charge σ x c) := by
  unfold kM_charge
  rcases rd_none h x with ⟨e, i, y, hi, hy, rfl⟩ | ⟨e, hx⟩
  · rw [if_pos e]
    refine Or.inl ⟨i, y, hy, rfl, ?_⟩
    dsimp only
    unfold kD_charge
    rw [show kD_within c 0 10000000 = kM_within c 0 10000000 from rfl]
    by_cases q : kM_within c 0 10000000 = 0
    · rw [if_pos q, if_pos q]
      exact ⟨rfl, fun z => absurd z (show ¬ (1 : Int32) = 0 by decide), fun _ => h⟩
    · rw [if_neg q, if_neg q, ix_ln hi]
      refine ⟨rfl, fun _ => ⟨rfl, ?_⟩, fun z => absurd rfl z⟩
      obtain ⟨cn, c1, c2, rfl⟩ := win_nat (a := 0) (b := 10000000) (by decide) (by decide) q
      obtain ⟨o, K, hr, hr2⟩ := h.2.2.2.2.1 i y hy
      refine rd_one h hy (fun j hj => ⟨⟨rfl, rfl, rfl, rfl, rfl, rfl, rfl, rfl, rfl, rfl, rfl, up_ne hj, up_ne hj, rfl, rfl⟩, fun _ _ => rfl, fun _ _ => rfl, fun _ _ => ⟨rfl, rfl, rfl, rfl, rfl⟩⟩) rfl rfl ⟨o, K, rl_agree hr c2, hr2⟩
  · rw [if_neg e]
    exact ra_no hx rfl h
set_option maxRecDepth 4000 in
theorem rd_pay {Ls : kLs} {σ : KS} {t : Nat} (h : rd Ls σ t) (x c : Int32) : ra Ls t x (fun S => kD_pay S (nI t) x c) (kM_pay σ x c) := by
  rcases rd_none h x with ⟨e, i, y, hi, hy, rfl⟩ | ⟨e, hx⟩
  · refine Or.inl ⟨i, y, hy, rfl, ?_⟩
    show _ = wc (kD_pay y.2 (nI t) (nI i) c).1 ∧ ((kD_pay y.2 (nI t) (nI i) c).1 = 0 → (kD_pay y.2 (nI t) (nI i) c).2.1 = _ ∧ rd (Ls.set i (y.1, (kD_pay y.2 (nI t) (nI i) c).2.2)) _ t) ∧ (¬ (kD_pay y.2 (nI t) (nI i) c).1 = 0 → _)
    unfold kD_pay
    rw [show kD_within c 1 200000000 = kM_within c 1 200000000 from rfl]
    by_cases q : kM_within c 1 200000000 = 0
    · rw [if_pos q, pp_pay, if_pos e, if_pos q]
      exact ⟨rfl, fun z => absurd z (show ¬ (1 : Int32) = 0 by decide), fun _ => h⟩
    · rw [if_neg q]
      obtain ⟨cn, c1, c2, rfl⟩ := win_nat (a := 1) (b := 200000000) (by decide) (by decide) q
      obtain ⟨o, K, hr, hr2, hr3, hr4⟩ := h.2.2.2.2.1 i y hy
      obtain ⟨f1, f2, f3, f4, f5, f6⟩ := rl_pay hi hr h.2.1 h.1 hr2 hr3 hr4 c2 e q
      exact ⟨f4, fun _ => ⟨f1, rd_one h hy f3 f5 f6 ⟨o, K, f2, hr2, hr3, hr4⟩⟩, fun z => absurd rfl z⟩
  · refine ra_no hx ?_ ?_
    · rw [pp_pay, if_neg e]
      rfl
    · rw [pp_pay, if_neg e]
      exact h
set_option maxRecDepth 4000 in
theorem rd_pay_hpp {Ls : kLs} {σ : KS} {t : Nat} (h : rd Ls σ t) (x : Int32) : kM_none σ x = 0 → (∀ k : Int32, (kM_firstBehind σ x).toInt ≤ k.toInt → ¬ σ 3 x.toNatClampNeg < k → kM_dueDay (σ 1 x.toNatClampNeg) k ≤ 1073741824) ∧ (σ 3 x.toNatClampNeg).toInt ≤ 36 := fun e0 => by
  rcases rd_none h x with ⟨e, i, y, hi, hy, rfl⟩ | ⟨e, hx⟩
  · obtain ⟨o, K, ⟨rate, mon, rule, how, p, lv, ac, u, w0, w1, w2, w3, dp, cg, nb, nf, bl, bd, hT, hM, hA, hB, hP, hD, hN⟩, hr2, hr3, hr4⟩ := h.2.2.2.2.1 i y hy
    have hK := pc_K h.1 hr3
    have h1 := h.1
    exact pf_hpp (o := o) (t := t) (K := K) (mon := mon) h.2.1 (by rw [ix_ln hi]; exact hT.2.2.2.2.2.2.2.1) (by rw [ix_ln hi]; exact hT.2.1.2.1) hT.2.1.2.2 hT.2.2.2.2.2.2.2.2 hr2 (by omega) hr3 hr4 (by omega)
  · exact absurd e0 e
set_option maxRecDepth 4000 in
theorem rd_due {Ls : kLs} {σ : KS} {t : Nat} (h : rd Ls σ t) (x k : Int32) : ra Ls t x (fun S => kD_due S (nI t) x k) (kM_due σ x k) := by
  unfold kM_due
  rcases rd_none h x with ⟨e, i, y, hi, hy, rfl⟩ | ⟨e, hx⟩
  · rw [if_pos e]
    refine Or.inl ⟨i, y, hy, rfl, ?_⟩
    dsimp only
    unfold kD_due
    rw [show kD_within k 1 100 = kM_within k 1 100 from rfl]
    by_cases q : kM_within k 1 100 = 0
    · rw [if_pos q, if_pos q]
      exact ⟨rfl, fun z => absurd z (show ¬ (1 : Int32) = 0 by decide), fun _ => h⟩
    · rw [if_neg q, if_neg q]
      refine ⟨rfl, fun _ => ⟨?_, rd_set h hy⟩, fun z => absurd rfl z⟩
      obtain ⟨kn, c1, c2, rfl⟩ := win_nat (a := 1) (b := 100) (by decide) (by decide) q
      obtain ⟨o, K, ⟨rate, mon, rule, how, p, lv, ac, u, w0, w1, w2, w3, dp, cg, nb, nf, bl, bd, hT, hM, hA, hB, hP, hD, hN⟩, _⟩ := h.2.2.2.2.1 i y hy
      have ho := hT.2.2.2.2.2.2.2.2
      show kT_dueDay y.2 (nI kn) = kM_dueDay (σ 1 (nI i).toNatClampNeg) (nI kn)
      rw [ix_ln hi, hT.2.2.2.2.2.2.2.1, pe_dueDay (by omega) (by omega)]
      exact pe_dueDayT (by omega) (by omega) hT.2.2.2.2.2.1 hT.2.2.2.2.2.2.1
  · rw [if_neg e]
    exact ra_no hx rfl h
set_option maxRecDepth 4000 in
theorem rd_part {Ls : kLs} {σ : KS} {t : Nat} (h : rd Ls σ t) (x w : Int32) : ra Ls t x (fun S => kD_part S (nI t) x w) (kM_part σ x w) := by
  unfold kM_part
  rcases rd_none h x with ⟨e, i, y, hi, hy, rfl⟩ | ⟨e, hx⟩
  · rw [if_pos e]
    refine Or.inl ⟨i, y, hy, rfl, ?_⟩
    obtain ⟨o, K, ⟨rate, mon, rule, how, p, lv, ac, u, w0, w1, w2, w3, dp, cg, nb, nf, bl, bd, hT, hM, hA, hB, hP, hD, hN⟩, _⟩ := h.2.2.2.2.1 i y hy
    dsimp only
    unfold kD_part
    rw [show kD_within w 0 5 = kM_within w 0 5 from rfl]
    by_cases q : kM_within w 0 5 = 0
    · rw [if_pos q, if_pos q]
      exact ⟨rfl, fun z => absurd z (show ¬ (1 : Int32) = 0 by decide), fun _ => h⟩
    · rw [if_neg q, if_neg q, ix_ln hi, hP.1]
      by_cases q2 : σ 15 i = 0
      · rw [if_pos q2, if_pos q2]
        exact ⟨rfl, fun z => absurd z (show ¬ (2 : Int32) = 0 by decide), fun _ => h⟩
      · rw [if_neg q2, if_neg q2]
        refine ⟨rfl, fun _ => ⟨?_, rd_set h hy⟩, fun z => absurd rfl z⟩
        obtain ⟨wn, c1, c2, rfl⟩ := win_nat (a := 0) (b := 5) (by decide) (by decide) q
        show y.2 2 (nI wn).toNatClampNeg = σ 16 (6 * nI i + nI wn).toNatClampNeg
        rw [ix_6 hi wn (by omega), nI_clamp (by omega)]
        exact hP.2 wn (by omega)
  · rw [if_neg e]
    exact ra_no hx rfl h
set_option maxRecDepth 4000 in
theorem rd_owed {Ls : kLs} {σ : KS} {t : Nat} (h : rd Ls σ t) (x w : Int32) : ra Ls t x (fun S => kD_owed S (nI t) x w) (kM_owed σ x w) := by
  unfold kM_owed
  rcases rd_none h x with ⟨e, i, y, hi, hy, rfl⟩ | ⟨e, hx⟩
  · rw [if_pos e]
    refine Or.inl ⟨i, y, hy, rfl, ?_⟩
    obtain ⟨o, K, ⟨rate, mon, rule, how, p, lv, ac, u, w0, w1, w2, w3, dp, cg, nb, nf, bl, bd, hT, hM, hA, hB, hP, hD, hN⟩, _⟩ := h.2.2.2.2.1 i y hy
    dsimp only
    unfold kD_owed
    rw [show kD_within w 0 3 = kM_within w 0 3 from rfl]
    by_cases q : kM_within w 0 3 = 0
    · rw [if_pos q, if_pos q]
      exact ⟨rfl, fun z => absurd z (show ¬ (1 : Int32) = 0 by decide), fun _ => h⟩
    · rw [if_neg q, if_neg q]
      refine ⟨rfl, fun _ => ⟨?_, rd_set h hy⟩, fun z => absurd rfl z⟩
      obtain ⟨wn, c1, c2, rfl⟩ := win_nat (a := 0) (b := 3) (by decide) (by decide) q
      show y.2 1 (nI wn).toNatClampNeg = σ 14 (4 * nI i + nI wn).toNatClampNeg
      rw [ix_4 hi wn (by omega), nI_clamp (by omega)]
      obtain ⟨_, _, _, _, ⟨x5, y5⟩, ⟨x6, y6⟩, ⟨x7, y7⟩, ⟨x8, y8⟩⟩ := hM
      have hc : wn = 0 ∨ wn = 1 ∨ wn = 2 ∨ wn = 3 := by omega
      rcases hc with rfl | rfl | rfl | rfl
      · exact x5.trans y5.symm
      · exact x6.trans y6.symm
      · exact x7.trans y7.symm
      · exact x8.trans y8.symm
  · rw [if_neg e]
    exact ra_no hx rfl h
set_option maxRecDepth 4000 in
theorem rd_bill {Ls : kLs} {σ : KS} {t : Nat} (h : rd Ls σ t) (x k w : Int32) : ra Ls t x (fun S => kD_bill S (nI t) x k w) (kM_bill σ x k w) := by
  unfold kM_bill
  rcases rd_none h x with ⟨e, i, y, hi, hy, rfl⟩ | ⟨e, hx⟩
  · rw [if_pos e]
    refine Or.inl ⟨i, y, hy, rfl, ?_⟩
    obtain ⟨o, K, ⟨rate, mon, rule, how, p, lv, ac, u, w0, w1, w2, w3, dp, cg, nb, nf, bl, bd, hT, hM, hA, hB, hP, hD, hN⟩, _⟩ := h.2.2.2.2.1 i y hy
    dsimp only
    unfold kD_bill
    rw [show kD_within w 0 4 = kM_within w 0 4 from rfl]
    by_cases q : kM_within w 0 4 = 0
    · rw [if_pos q, if_pos q]
      exact ⟨rfl, fun z => absurd z (show ¬ (1 : Int32) = 0 by decide), fun _ => h⟩
    · rw [if_neg q, if_neg q, ix_ln hi, hB.1.1, hB.1.2, show kD_within k 0 (nI nb - 1) = kM_within k 0 (nI nb - 1) from rfl]
      by_cases q2 : kM_within k 0 (nI nb - 1) = 0
      · rw [if_pos q2, if_pos q2]
        exact ⟨rfl, fun z => absurd z (show ¬ (4 : Int32) = 0 by decide), fun _ => h⟩
      · rw [if_neg q2, if_neg q2]
        obtain ⟨wn, c1, c2, rfl⟩ := win_nat (a := 0) (b := 4) (by decide) (by decide) q
        have hnb := hN.2.2.2.2.1
        have hkn : ∃ kn, kn < nb ∧ k = nI kn := by
          have h2 := kx_win q2
          have h20 : (0 : Int) ≤ k.toInt := h2.1
          have h21 := h2.2
          by_cases z : nb = 0
          · rw [z] at h21
            have h22 : k.toInt ≤ -1 := h21
            omega
          · obtain ⟨m, hm⟩ : ∃ m, nb = m + 1 := ⟨nb - 1, by omega⟩
            rw [hm, nI_pred, nI_toInt (by omega)] at h21
            exact ⟨k.toInt.toNat, by omega, i32_of (by omega) (by omega)⟩
        obtain ⟨kn, hk, rfl⟩ := hkn
        obtain ⟨b0, b1, b2, b3, b4, b5⟩ := hB.2 kn hk
        have hix : (nI kn * 5 + nI wn).toNatClampNeg = 5 * kn + wn := by
          rw [show nI kn * 5 = nI (kn * 5) from pk_mul kn 5, nI_add, nI_clamp (by omega)]
          omega
        have h60 : (60 * nI i + nI kn).toNatClampNeg = 60 * i + kn := ix_60 hi kn (by omega)
        rw [h60, hix]
        have hc : wn = 0 ∨ wn = 1 ∨ wn = 2 ∨ wn = 3 ∨ wn = 4 := by omega
        have hh := rd_set (τ := mkM 0 (σ 0 1) (σ 0 2) (σ 0 3) (σ 0 4) (σ 0 5) (σ 1) (σ 2) (σ 3) (σ 4) (σ 5) (σ 6) (σ 7) (σ 8) (σ 9) (σ 10) (σ 11) (σ 12) (σ 13) (σ 14) (σ 15) (σ 16) (σ 17) (σ 18) (σ 19) (σ 20) (σ 21) (σ 22)) h hy
        rcases hc with rfl | rfl | rfl | rfl | rfl
        · rw [if_pos (show nI 0 = (0 : Int32) from rfl)]
          exact ⟨rfl, fun _ => ⟨b1, hh⟩, fun z => absurd rfl z⟩
        · rw [if_neg (show ¬ nI 1 = (0 : Int32) by decide), if_pos (show nI 1 = (1 : Int32) from rfl)]
          exact ⟨rfl, fun _ => ⟨b2, hh⟩, fun z => absurd rfl z⟩
        · rw [if_neg (show ¬ nI 2 = (0 : Int32) by decide), if_neg (show ¬ nI 2 = (1 : Int32) by decide), if_pos (show nI 2 = (2 : Int32) from rfl)]
          exact ⟨rfl, fun _ => ⟨b3, hh⟩, fun z => absurd rfl z⟩
        · rw [if_neg (show ¬ nI 3 = (0 : Int32) by decide), if_neg (show ¬ nI 3 = (1 : Int32) by decide), if_neg (show ¬ nI 3 = (2 : Int32) by decide), if_pos (show nI 3 = (3 : Int32) from rfl)]
          exact ⟨rfl, fun _ => ⟨b4, hh⟩, fun z => absurd rfl z⟩
        · rw [if_neg (show ¬ nI 4 = (0 : Int32) by decide), if_neg (show ¬ nI 4 = (1 : Int32) by decide), if_neg (show ¬ nI 4 = (2 : Int32) by decide), if_neg (show ¬ nI 4 = (3 : Int32) by decide)]
          exact ⟨rfl, fun _ => ⟨b5, hh⟩, fun z => absurd rfl z⟩
  · rw [if_neg e]
    exact ra_no hx rfl h
set_option maxRecDepth 4000 in
theorem rd_bill_hbl {Ls : kLs} {σ : KS} {t : Nat} (h : rd Ls σ t) : ∀ i : Nat, 0 ≤ (σ 17 i).toInt ∧ (σ 17 i).toInt ≤ 60 := fun i => by
  rcases Nat.lt_or_ge i Ls.length with q | q
  · obtain ⟨nb, n1, _, n2⟩ := rl_pk (h.2.2.2.2.1 i Ls[i] (List.getElem?_eq_getElem q))
    rw [n2, nI_toInt (by omega)]
    omega
  · rw [(h.2.2.2.2.2 i q).1.2.2.2.2.2.2]
    decide
