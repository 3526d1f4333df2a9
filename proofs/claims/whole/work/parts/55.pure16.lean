/-! pure: the desk's relation; days go by on both sides -/
def rd_f (σ : KS) (j : Nat) : Prop := (σ 8 j = 0 ∧ σ 9 j = 0 ∧ σ 11 j = 0 ∧ σ 12 j = 0 ∧ σ 13 j = 0 ∧ σ 15 j = 0 ∧ σ 17 j = 0) ∧ (∀ w, w < 4 → σ 14 (4 * j + w) = 0) ∧ (∀ w, w < 6 → σ 16 (6 * j + w) = 0)
def rl_ok (S σ : KS) (i t : Nat) : Prop := ∃ o K, rl S σ i o K K t ∧ o ≤ t ∧ pm_due o K ≤ t ∧ t < pm_due o (K + 1)
def rd (Ls : kLs) (σ : KS) (t : Nat) : Prop := t ≤ 1500 ∧ σ 0 1 = nI t ∧ σ 0 2 = nI Ls.length ∧ Ls.length ≤ 3 ∧ (∀ (i : Nat) (x : (Nat → Nat) × KS), Ls[i]? = some x → rl_ok x.2 σ i t) ∧ (∀ j, Ls.length ≤ j → rd_f σ j)
set_option maxRecDepth 4000 in
theorem rd_f_oth {σ τ : KS} {i j : Nat} (h : rd_f σ j) (g : pf_oth i σ τ) (hj : j ≠ i) : rd_f τ j := by
  obtain ⟨⟨b1, b2, b3, b4, b5, b6, b7, b8, b9, b10, b11, b12, b13, b15, b17⟩, b14, b16, b18⟩ := g j hj
  obtain ⟨⟨x8, x9, x11, x12, x13, x15, x17⟩, x14, x16⟩ := h
  exact ⟨⟨b8.trans x8, b9.trans x9, b11.trans x11, b12.trans x12, b13.trans x13, b15.trans x15, b17.trans x17⟩, fun w hw => (b14 w hw).trans (x14 w hw), fun w hw => (b16 w hw).trans (x16 w hw)⟩
set_option maxRecDepth 4000 in
theorem rl_ok_oth {S σ τ : KS} {i j t : Nat} (h : rl_ok S σ j t) (g : pf_oth i σ τ) (hj : j ≠ i) : rl_ok S τ j t := by
  obtain ⟨o, K, h1, h2⟩ := h
  exact ⟨o, K, rl_oth h1 g hj, h2⟩
set_option maxRecDepth 4000 in
theorem rd_one {Ls : kLs} {σ τ S' : KS} {i t : Nat} {x : (Nat → Nat) × KS} (h : rd Ls σ t) (hx : Ls[i]? = some x) (g : pf_oth i σ τ) (g1 : τ 0 1 = σ 0 1) (g2 : τ 0 2 = σ 0 2) (hr : rl_ok S' τ i t) : rd (Ls.set i (x.1, S')) τ t := by
  obtain ⟨h1, h2, h3, h4, h5, h6⟩ := h
  have hi : i < Ls.length := (List.getElem?_eq_some_iff.1 hx).1
  refine ⟨h1, g1.trans h2, ?_, ?_, fun j y hy => ?_, fun j hj => ?_⟩
  · rw [List.length_set]
    exact g2.trans h3
  · rw [List.length_set]
    exact h4
  · by_cases e : i = j
    · subst e
      rw [List.getElem?_set_self hi] at hy
      cases hy
      exact hr
    · rw [List.getElem?_set_ne e] at hy
      exact rl_ok_oth (h5 j y hy) g (Ne.symm e)
  · rw [List.length_set] at hj
    exact rd_f_oth (h6 j hj) g (by omega)
set_option maxRecDepth 4000 in
theorem rd_same {Ls : kLs} {σ τ : KS} {t : Nat} (h : rd Ls σ t) (g1 : τ 0 1 = σ 0 1) (g2 : τ 0 2 = σ 0 2) (g : ∀ a, 1 ≤ a → a ≤ 22 → τ a = σ a) : rd Ls τ t := by
  have go : ∀ i, pf_oth i σ τ := fun i j _ => by
    rw [g 1 (by decide) (by decide), g 2 (by decide) (by decide), g 3 (by decide) (by decide), g 4 (by decide) (by decide), g 5 (by decide) (by decide), g 6 (by decide) (by decide), g 7 (by decide) (by decide), g 8 (by decide) (by decide), g 9 (by decide) (by decide), g 10 (by decide) (by decide), g 11 (by decide) (by decide), g 12 (by decide) (by decide), g 13 (by decide) (by decide), g 14 (by decide) (by decide), g 15 (by decide) (by decide), g 16 (by decide) (by decide), g 17 (by decide) (by decide), g 18 (by decide) (by decide), g 19 (by decide) (by decide), g 20 (by decide) (by decide), g 21 (by decide) (by decide), g 22 (by decide) (by decide)]
    exact pf_oth_refl (j + 1) σ j (by omega)
  obtain ⟨h1, h2, h3, h4, h5, h6⟩ := h
  exact ⟨h1, g1.trans h2, g2.trans h3, h4, fun i x hx => rl_ok_oth (h5 i x hx) (go (i + 1)) (by omega), fun j hj => rd_f_oth (h6 j hj) (go (j + 1)) (by omega)⟩
set_option maxRecDepth 4000 in
theorem kb_01 (S : KS) (t : Int32) : (kN_beginDay S t).1 = 0 ∨ (kN_beginDay S t).1 = 1 := by
  have e : ∀ T : KS, (pq_endN T t).1 = 0 ∨ (pq_endN T t).1 = 1 := fun T => by
    unfold pq_endN
    split
    · exact Or.inr rfl
    · split
      · exact Or.inr rfl
      · exact Or.inl rfl
  have r : ∀ T : KS, (pq_restN T t).1 = 0 ∨ (pq_restN T t).1 = 1 := fun T => by
    unfold pq_restN
    split
    · split
      · exact e _
      · exact e _
    · exact Or.inl rfl
  rw [pq_begin]
  split
  · exact r _
  · exact r _
set_option maxRecDepth 4000 in
theorem kb_add (S : KS) (t n r : Int32) (h : (kN_beginDay S t).1 = r) : (if (kN_beginDay S t).1 = (0 : Int32) then n else n + 1) = n + r := by
  rcases kb_01 S t with q | q
  · rw [if_pos q, ← h, q]
    exact (Int32.add_zero n).symm
  · rw [if_neg (by rw [q]; decide), ← h, q]
set_option maxRecDepth 4000 in
/-- one loan's day inside the desk -/
theorem rd_loan {S σ : KS} {i t : Nat} (hi : i < 3) (ht : t < 1500) (h : rl_ok S σ i t) (h01 : σ 0 1 = nI (t + 1)) : (kN_beginDay S (nI (t + 1))).1 = (kM_dayOfLoan σ (nI i)).1 ∧ rl_ok (kN_beginDay S (nI (t + 1))).2 (kM_dayOfLoan σ (nI i)).2 i (t + 1) ∧ pf_oth i σ (kM_dayOfLoan σ (nI i)).2 := by
  obtain ⟨o, K, h1, h2, h3, h4⟩ := h
  obtain ⟨K', e1, e2, e3, e4, e5⟩ := rl_day hi ht h1 h01 h2 h3 h4
  exact ⟨e1, ⟨o, K', e2, by omega, e3, e4⟩, e5⟩
set_option maxRecDepth 4000 in
theorem rl_pk {S σ : KS} {i t : Nat} (h : rl_ok S σ i t) : ∃ nb : Nat, nb ≤ 49 ∧ S 0 30 = nI nb ∧ σ 17 i = nI nb := by
  obtain ⟨o, K, ⟨rate, mon, rule, how, p, lv, ac, u, w0, w1, w2, w3, dp, cg, nb, nf, bl, bd, hT, hM, hA, hB, hP, hD, hN⟩, _⟩ := h
  exact ⟨nb, hN.2.2.2.2.1, hB.1.1, hB.1.2⟩
set_option maxRecDepth 4000 in
theorem rl_pkd {S σ : KS} {i t : Nat} (hi : i < 3) (h : rl_ok S σ i t) (h01 : σ 0 1 = nI (t + 1)) (ht : t < 1500) : pk_day σ (nI i) := by
  obtain ⟨nb, h1, h2, h3⟩ := rl_pk h
  refine ⟨?_, ?_⟩
  · rw [h01]
    exact nI_le (b := 1073741824) (by omega) (by decide)
  · rw [ix_ln hi, h3, nI_toInt (by omega)]
    omega
set_option maxRecDepth 4000 in
/-- a day of the desk -/
theorem rd_day {Ls : kLs} {σ : KS} {t : Nat} (h : rd Ls σ t) (ht : t < 1500) : kd_ok σ ∧ rd (kD_dl Ls (nI (t + 1))) (kd_day σ) (t + 1) ∧ kd_day σ 0 0 = σ 0 0 ∧ ∀ n : Int32, kD_dm (nI (t + 1)) Ls n = (if σ 0 2 ≤ 0 then n else if σ 0 2 ≤ 1 then n + (kM_dayOfLoan (kd0 σ) 0).1 else if σ 0 2 ≤ 2 then n + (kM_dayOfLoan (kd0 σ) 0).1 + (kM_dayOfLoan (kd1 σ) 1).1 else n + (kM_dayOfLoan (kd0 σ) 0).1 + (kM_dayOfLoan (kd1 σ) 1).1 + (kM_dayOfLoan (kd2 σ) 2).1) := by
  obtain ⟨h1, h2, h3, h4, h5, h6⟩ := h
  have g01 : kd0 σ 0 1 = nI (t + 1) := by
    show σ 0 1 + 1 = _
    rw [h2, nI_1]
  have a1 := kx_dl (kd0 σ) 0
  have a2 := kx_dl (kd1 σ) 1
  have a3 := kx_dl (kd2 σ) 2
  have g11 : kd1 σ 0 1 = nI (t + 1) := a1.2.1.trans g01
  have g21 : kd2 σ 0 1 = nI (t + 1) := a2.2.1.trans g11
  have g31 : kd3 σ 0 1 = nI (t + 1) := a3.2.1.trans g21
  have b1 : kd1 σ 0 2 = σ 0 2 := a1.2.2
  have b2 : kd2 σ 0 2 = σ 0 2 := a2.2.2.trans b1
  have b3 : kd3 σ 0 2 = σ 0 2 := a3.2.2.trans b2
  have c1 : kd1 σ 0 0 = σ 0 0 := a1.1
  have c2 : kd2 σ 0 0 = σ 0 0 := a2.1.trans c1
  have c3 : kd3 σ 0 0 = σ 0 0 := a3.1.trans c2
  have r0 : ∀ i x, Ls[i]? = some x → rl_ok x.2 (kd0 σ) i t := fun i x hx => h5 i x hx
  have f0 : ∀ j, Ls.length ≤ j → rd_f (kd0 σ) j := fun j hj => h6 j hj
  unfold kd_ok
  match Ls, h3, h4, r0, f0 with
  | [], h3, h4, r0, f0 =>
    have h3' : σ 0 2 = (0 : Int32) := h3
    have e : σ 0 2 ≤ 0 := by rw [h3']; decide
    rw [kd_day_0 e]
    refine ⟨⟨fun q => absurd e q, fun q => absurd (Int32.le_trans e (by decide)) q, fun q => absurd (Int32.le_trans e (by decide)) q⟩, ⟨by omega, g01, h3, h4, fun i x hx => (by cases hx), fun j hj => f0 j hj⟩, rfl, fun n => ?_⟩
    rw [if_pos e]
    rfl
  | [x], h3, h4, r0, f0 =>
    have h3' : σ 0 2 = (1 : Int32) := h3
    have e0 : ¬ σ 0 2 ≤ 0 := by rw [h3']; decide
    have e1 : σ 0 2 ≤ 1 := by rw [h3']; decide
    rw [kd_day_1 e0 e1]
    have s0 := r0 0 x rfl
    obtain ⟨p1, p2, p3⟩ := rd_loan (i := 0) (by decide) ht s0 g01
    refine ⟨⟨fun _ => rl_pkd (i := 0) (by decide) s0 g01 ht, fun q => absurd e1 q, fun q => absurd (Int32.le_trans e1 (by decide)) q⟩, ⟨by omega, g11, b1.trans h3, h4, fun i y hy => ?_, fun j hj => rd_f_oth (f0 j hj) p3 (by have : 1 ≤ j := hj; omega)⟩, c1, fun n => ?_⟩
    · match i, hy with
      | 0, hy =>
        cases hy
        exact p2
    · rw [if_neg e0, if_pos e1]
      exact kb_add _ _ n _ p1
  | [x, y], h3, h4, r0, f0 =>
    have h3' : σ 0 2 = (2 : Int32) := h3
    have e0 : ¬ σ 0 2 ≤ 0 := by rw [h3']; decide
    have e1 : ¬ σ 0 2 ≤ 1 := by rw [h3']; decide
    have e2 : σ 0 2 ≤ 2 := by rw [h3']; decide
    rw [kd_day_2 e0 e1 e2]
    have s0 := r0 0 x rfl
    obtain ⟨p1, p2, p3⟩ := rd_loan (i := 0) (by decide) ht s0 g01
    have s1 : rl_ok y.2 (kd1 σ) 1 t := rl_ok_oth (r0 1 y rfl) p3 (by decide)
    obtain ⟨q1, q2, q3⟩ := rd_loan (i := 1) (by decide) ht s1 g11
    refine ⟨⟨fun _ => rl_pkd (i := 0) (by decide) s0 g01 ht, fun _ => rl_pkd (i := 1) (by decide) s1 g11 ht, fun q => absurd e2 q⟩, ⟨by omega, g21, b2.trans h3, h4, fun i z hz => ?_, fun j hj => rd_f_oth (rd_f_oth (f0 j hj) p3 (by have : 2 ≤ j := hj; omega)) q3 (by have : 2 ≤ j := hj; omega)⟩, c2, fun n => ?_⟩
    · match i, hz with
      | 0, hz =>
        cases hz
        exact rl_ok_oth p2 q3 (by decide)
      | 1, hz =>
        cases hz
        exact q2
    · rw [if_neg e0, if_neg e1, if_pos e2]
      show (if (kN_beginDay y.2 (nI (t + 1))).1 = (0 : Int32) then (if (kN_beginDay x.2 (nI (t + 1))).1 = (0 : Int32) then n else n + 1) else (if (kN_beginDay x.2 (nI (t + 1))).1 = (0 : Int32) then n else n + 1) + 1) = _
      rw [kb_add _ _ n _ p1]
      exact kb_add _ _ _ _ q1
  | [x, y, z], h3, h4, r0, f0 =>
    have h3' : σ 0 2 = (3 : Int32) := h3
    have e0 : ¬ σ 0 2 ≤ 0 := by rw [h3']; decide
    have e1 : ¬ σ 0 2 ≤ 1 := by rw [h3']; decide
    have e2 : ¬ σ 0 2 ≤ 2 := by rw [h3']; decide
    rw [kd_day_3 e0 e1 e2]
    have s0 := r0 0 x rfl
    obtain ⟨p1, p2, p3⟩ := rd_loan (i := 0) (by decide) ht s0 g01
    have s1 : rl_ok y.2 (kd1 σ) 1 t := rl_ok_oth (r0 1 y rfl) p3 (by decide)
    obtain ⟨q1, q2, q3⟩ := rd_loan (i := 1) (by decide) ht s1 g11
    have s2 : rl_ok z.2 (kd2 σ) 2 t := rl_ok_oth (rl_ok_oth (r0 2 z rfl) p3 (by decide)) q3 (by decide)
    obtain ⟨v1, v2, v3⟩ := rd_loan (i := 2) (by decide) ht s2 g21
    refine ⟨⟨fun _ => rl_pkd (i := 0) (by decide) s0 g01 ht, fun _ => rl_pkd (i := 1) (by decide) s1 g11 ht, fun _ => rl_pkd (i := 2) (by decide) s2 g21 ht⟩, ⟨by omega, g31, b3.trans h3, h4, fun i w hw => ?_, fun j hj => rd_f_oth (rd_f_oth (rd_f_oth (f0 j hj) p3 (by have : 3 ≤ j := hj; omega)) q3 (by have : 3 ≤ j := hj; omega)) v3 (by have : 3 ≤ j := hj; omega)⟩, c3, fun n => ?_⟩
    · match i, hw with
      | 0, hw =>
        cases hw
        exact rl_ok_oth (rl_ok_oth p2 q3 (by decide)) v3 (by decide)
      | 1, hw =>
        cases hw
        exact rl_ok_oth q2 v3 (by decide)
      | 2, hw =>
        cases hw
        exact v2
    · rw [if_neg e0, if_neg e1, if_neg e2]
      show (if (kN_beginDay z.2 (nI (t + 1))).1 = (0 : Int32) then (if (kN_beginDay y.2 (nI (t + 1))).1 = (0 : Int32) then (if (kN_beginDay x.2 (nI (t + 1))).1 = (0 : Int32) then n else n + 1) else (if (kN_beginDay x.2 (nI (t + 1))).1 = (0 : Int32) then n else n + 1) + 1) else (if (kN_beginDay y.2 (nI (t + 1))).1 = (0 : Int32) then (if (kN_beginDay x.2 (nI (t + 1))).1 = (0 : Int32) then n else n + 1) else (if (kN_beginDay x.2 (nI (t + 1))).1 = (0 : Int32) then n else n + 1) + 1) + 1) = _
      rw [kb_add _ _ n _ p1, kb_add _ _ _ _ q1]
      exact kb_add _ _ _ _ v1
  | _ :: _ :: _ :: _ :: _, h3, h4, r0, f0 => exact absurd h4 (by simp only [List.length_cons]; omega)
set_option maxRecDepth 4000 in
theorem rd_ad_step (σ : KS) (days : Int32) (n : Nat) (nn dd : Int32) (S : KS) : lf_ad σ days (n + 1) nn dd S = if days ≤ dd then (nn, S) else lf_ad σ days n (if S 0 2 ≤ 0 then nn else if S 0 2 ≤ 1 then nn + (kM_dayOfLoan (kd0 S) 0).1 else if S 0 2 ≤ 2 then nn + (kM_dayOfLoan (kd0 S) 0).1 + (kM_dayOfLoan (kd1 S) 1).1 else nn + (kM_dayOfLoan (kd0 S) 0).1 + (kM_dayOfLoan (kd1 S) 1).1 + (kM_dayOfLoan (kd2 S) 2).1) (dd + 1) (kd_day S) := by
  have b1 : (kM_dayOfLoan (kd0 S) 0).2 0 2 = S 0 2 := (kx_dl (kd0 S) 0).2.2
  have b2 : (kM_dayOfLoan (kd1 S) 1).2 0 2 = S 0 2 := (kx_dl (kd1 S) 1).2.2.trans b1
  have k0 : mkM (S 0 0) ((S 0 1) + 1) (S 0 2) (S 0 3) (S 0 4) (S 0 5) (S 1) (S 2) (S 3) (S 4) (S 5) (S 6) (S 7) (S 8) (S 9) (S 10) (S 11) (S 12) (S 13) (S 14) (S 15) (S 16) (S 17) (S 18) (S 19) (S 20) (S 21) (S 22) = kd0 S := rfl
  have k1 : (kM_dayOfLoan (kd0 S) 0).2 = kd1 S := rfl
  have k2 : (kM_dayOfLoan (kd1 S) 1).2 = kd2 S := rfl
  have k3 : (kM_dayOfLoan (kd2 S) 2).2 = kd3 S := rfl
  rw [k1] at b1
  rw [k2] at b2
  rw [lf_ad, k0, k1, k2, k3, b1, b2]
  by_cases q : days ≤ dd
  · rw [if_pos q, if_pos q]
  · rw [if_neg q, if_neg q]
    by_cases q0 : S 0 2 ≤ 0
    · rw [if_pos q0, if_pos q0, kd_day_0 q0]
    · rw [if_neg q0, if_neg q0]
      by_cases q1 : S 0 2 ≤ 1
      · rw [if_pos q1, if_pos q1, kd_day_1 q0 q1]
      · rw [if_neg q1, if_neg q1]
        by_cases q2 : S 0 2 ≤ 2
        · rw [if_pos q2, if_pos q2, kd_day_2 q0 q1 q2]
        · rw [if_neg q2, if_neg q2, kd_day_3 q0 q1 q2]
set_option maxRecDepth 4000 in
theorem kD_dl_len (Ls : kLs) (t : Int32) : (kD_dl Ls t).length = Ls.length := by
  unfold kD_dl
  exact List.length_map _
set_option maxRecDepth 4000 in
/-- days go by on both sides -/
theorem rd_adv (σ : KS) : ∀ (k d t : Nat) (n : Int32) (Ls : kLs) (S : KS), rd Ls S t → t + k ≤ 1500 → d + k ≤ 1500 → (lf_ad σ (nI (d + k)) (k + 1) n (nI d) S).1 = (kD_adv k (nI t) n Ls).1 ∧ rd (kD_adv k (nI t) n Ls).2.2 (lf_ad σ (nI (d + k)) (k + 1) n (nI d) S).2 (t + k) ∧ (kD_adv k (nI t) n Ls).2.1 = nI (t + k) ∧ (lf_ad σ (nI (d + k)) (k + 1) n (nI d) S).2 0 0 = S 0 0 ∧ kD_ok k (nI t) Ls ∧ (kD_adv k (nI t) n Ls).2.2.map Prod.fst = Ls.map Prod.fst := by
  intro k
  induction k with
  | zero =>
    intro d t n Ls S h hk hd
    rw [rd_ad_step, if_pos (nI_le (by omega) (by omega))]
    exact ⟨rfl, h, rfl, rfl, trivial, rfl⟩
  | succ k ih =>
    intro d t n Ls S h hk hd
    obtain ⟨_, r1, r2, r3⟩ := rd_day h (by omega)
    rw [rd_ad_step, if_neg (fun q => absurd ((nI_leI (by omega) (by omega)).1 q) (by omega)), ← r3 n, nI_1, show d + (k + 1) = d + 1 + k by omega]
    have hh := ih (d + 1) (t + 1) (kD_dm (nI (t + 1)) Ls n) (kD_dl Ls (nI (t + 1))) (kd_day S) r1 (by omega) (by omega)
    show _ = (kD_adv k (nI t + 1) (kD_dm (nI t + 1) Ls n) (kD_dl Ls (nI t + 1))).1 ∧ rd (kD_adv k (nI t + 1) (kD_dm (nI t + 1) Ls n) (kD_dl Ls (nI t + 1))).2.2 _ _ ∧ (kD_adv k (nI t + 1) (kD_dm (nI t + 1) Ls n) (kD_dl Ls (nI t + 1))).2.1 = _ ∧ _ ∧ (kD_small Ls ∧ kD_ok k (nI t + 1) (kD_dl Ls (nI t + 1))) ∧ (kD_adv k (nI t + 1) (kD_dm (nI t + 1) Ls n) (kD_dl Ls (nI t + 1))).2.2.map Prod.fst = _
    rw [nI_1, show t + (k + 1) = t + 1 + k by omega]
    refine ⟨hh.1, hh.2.1, hh.2.2.1, hh.2.2.2.1.trans r2, ⟨fun x hx => ?_, hh.2.2.2.2.1⟩, hh.2.2.2.2.2.trans (kD_dl_map Ls _)⟩
    obtain ⟨i, hi, rfl⟩ := List.getElem_of_mem hx
    obtain ⟨nb, n1, n2, _⟩ := rl_pk (h.2.2.2.2.1 i Ls[i] (List.getElem?_eq_getElem hi))
    exact ⟨nb, n2, by omega⟩
