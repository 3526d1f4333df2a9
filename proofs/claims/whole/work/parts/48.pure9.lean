/-! pure: the relation of a loan of the desk (state S) with loan i of the reference (state σ) -/
def rl_T (S σ : KS) (i o rate mon rule how : Nat) : Prop := (S 0 10 = nI rate ∧ σ 2 i = nI rate ∧ rate ≤ 30000) ∧ (S 0 11 = nI mon ∧ σ 3 i = nI mon ∧ mon ≤ 36) ∧ (S 0 12 = nI rule ∧ σ 4 i = nI rule ∧ rule < 4) ∧ (S 0 13 = nI how ∧ σ 5 i = nI how ∧ how < 4) ∧ S 0 14 = σ 6 i ∧ (S 0 15 = nI (pm_month o) ∧ S 0 16 = nI (pm_num o) ∧ σ 1 i = nI o ∧ o ≤ 1500)
def rl_M (S σ : KS) (i p lv ac u w0 w1 w2 w3 : Nat) : Prop := (S 0 1 = nI p ∧ σ 7 i = nI p) ∧ (S 0 2 = nI lv ∧ σ 8 i = nI lv) ∧ (S 0 3 = nI ac ∧ σ 9 i = nI ac) ∧ (S 0 4 = nI u ∧ σ 10 i = nI u) ∧ (S 1 0 = nI w0 ∧ σ 14 (4 * i) = nI w0) ∧ (S 1 1 = nI w1 ∧ σ 14 (4 * i + 1) = nI w1) ∧ (S 1 2 = nI w2 ∧ σ 14 (4 * i + 2) = nI w2) ∧ (S 1 3 = nI w3 ∧ σ 14 (4 * i + 3) = nI w3)
def rl_A (S σ : KS) (i : Nat) (bl : Int32) (dp cg : Nat) : Prop := (S 0 20 = bl ∧ σ 11 i = bl) ∧ (S 0 21 = nI dp ∧ σ 13 i = nI dp) ∧ (S 0 22 = nI cg ∧ σ 12 i = nI cg)
def rl_B (S σ : KS) (i nb : Nat) (bd : Nat → Nat) : Prop := (S 0 30 = nI nb ∧ σ 17 i = nI nb) ∧ (∀ q, q < nb → σ 18 (60 * i + q) = nI (bd q) ∧ S 4 (5 * q) = σ 18 (60 * i + q) ∧ S 4 (5 * q + 1) = σ 19 (60 * i + q) ∧ S 4 (5 * q + 2) = σ 20 (60 * i + q) ∧ S 4 (5 * q + 3) = σ 21 (60 * i + q) ∧ S 4 (5 * q + 4) = σ 22 (60 * i + q))
def rl_P (S σ : KS) (i : Nat) : Prop := S 0 0 = σ 15 i ∧ ∀ w, w < 6 → S 2 w = σ 16 (6 * i + w)
def rl_D (S : KS) (o K : Nat) : Prop := S 0 5 = nI K ∧ S 0 6 = nI (pm_due o (K + 1))
def rl_N (o K KB t p lv ac u w0 w1 w2 w3 : Nat) (bl : Int32) (dp cg nb nf : Nat) (bd : Nat → Nat) : Prop := (p ≤ 100000000 ∧ lv ≤ 120000000 ∧ o ≤ u ∧ u ≤ t ∧ ac + w1 ≤ 250001 * (u - o) ∧ w2 ≤ p) ∧ (w0 ≤ 35000000 * nf ∧ nf ≤ nb ∧ w3 ≤ 4200000 * nb) ∧ (bl.toInt + w3 ≤ 4200000 * nb ∧ -(10000000 * ((K / 12 : Nat) : Int)) ≤ bl.toInt ∧ dp ≤ 4200000 ∧ cg ≤ 10000000) ∧ (nb ≤ KB ∧ nb ≤ 49 ∧ (∀ q, q < nb → bd q ≤ pm_due o KB) ∧ (∀ q r, q < r → r < nb → bd q + 28 ≤ bd r) ∧ (0 < nb → t < bd (nb - 1) + 10 → nf + 1 ≤ nb))
def rl (S σ : KS) (i o K KB t : Nat) : Prop := ∃ rate mon rule how p lv ac u w0 w1 w2 w3 dp cg nb nf : Nat, ∃ bl : Int32, ∃ bd : Nat → Nat, rl_T S σ i o rate mon rule how ∧ rl_M S σ i p lv ac u w0 w1 w2 w3 ∧ rl_A S σ i bl dp cg ∧ rl_B S σ i nb bd ∧ rl_P S σ i ∧ rl_D S o K ∧ rl_N o K KB t p lv ac u w0 w1 w2 w3 bl dp cg nb nf bd
set_option maxRecDepth 4000 in
theorem ix_ln {i : Nat} (h : i < 3) : (nI i).toNatClampNeg = i := nI_clamp (by omega)
set_option maxRecDepth 4000 in
theorem ix_40 {i : Nat} (h : i < 3) : (4 * nI i).toNatClampNeg = 4 * i := by
  rw [show (4 : Int32) * nI i = nI (4 * i) from pk_mul 4 i, nI_clamp (by omega)]
set_option maxRecDepth 4000 in
theorem ix_4 {i : Nat} (h : i < 3) (w : Nat) (hw : w < 4) : (4 * nI i + nI w).toNatClampNeg = 4 * i + w := by
  rw [show (4 : Int32) * nI i = nI (4 * i) from pk_mul 4 i, nI_add, nI_clamp (by omega)]
set_option maxRecDepth 4000 in
theorem ix_6 {i : Nat} (h : i < 3) (w : Nat) (hw : w < 6) : (6 * nI i + nI w).toNatClampNeg = 6 * i + w := by
  rw [show (6 : Int32) * nI i = nI (6 * i) from pk_mul 6 i, nI_add, nI_clamp (by omega)]
set_option maxRecDepth 4000 in
theorem ix_60 {i : Nat} (h : i < 3) (w : Nat) (hw : w < 60) : (60 * nI i + nI w).toNatClampNeg = 60 * i + w := by
  rw [show (60 : Int32) * nI i = nI (60 * i) from pk_mul 60 i, nI_add, nI_clamp (by omega)]
set_option maxRecDepth 4000 in
theorem up_eq (f : Nat → Int32) (k : Nat) (x : Int32) : upd f k x k = x := if_pos rfl
set_option maxRecDepth 4000 in
theorem up_ne {f : Nat → Int32} {k j : Nat} {x : Int32} (h : ¬ j = k) : upd f k x j = f j := if_neg h
/-- the places of the other loans are the same -/
def pf_oth (i : Nat) (σ τ : KS) : Prop := ∀ j, j ≠ i → (τ 1 j = σ 1 j ∧ τ 2 j = σ 2 j ∧ τ 3 j = σ 3 j ∧ τ 4 j = σ 4 j ∧ τ 5 j = σ 5 j ∧ τ 6 j = σ 6 j ∧ τ 7 j = σ 7 j ∧ τ 8 j = σ 8 j ∧ τ 9 j = σ 9 j ∧ τ 10 j = σ 10 j ∧ τ 11 j = σ 11 j ∧ τ 12 j = σ 12 j ∧ τ 13 j = σ 13 j ∧ τ 15 j = σ 15 j ∧ τ 17 j = σ 17 j) ∧ (∀ w, w < 4 → τ 14 (4 * j + w) = σ 14 (4 * j + w)) ∧ (∀ w, w < 6 → τ 16 (6 * j + w) = σ 16 (6 * j + w)) ∧ (∀ q, q < 60 → τ 18 (60 * j + q) = σ 18 (60 * j + q) ∧ τ 19 (60 * j + q) = σ 19 (60 * j + q) ∧ τ 20 (60 * j + q) = σ 20 (60 * j + q) ∧ τ 21 (60 * j + q) = σ 21 (60 * j + q) ∧ τ 22 (60 * j + q) = σ 22 (60 * j + q))
set_option maxRecDepth 4000 in
theorem pf_oth_refl (i : Nat) (σ : KS) : pf_oth i σ σ := fun j _ => ⟨⟨rfl, rfl, rfl, rfl, rfl, rfl, rfl, rfl, rfl, rfl, rfl, rfl, rfl, rfl, rfl⟩, fun _ _ => rfl, fun _ _ => rfl, fun _ _ => ⟨rfl, rfl, rfl, rfl, rfl⟩⟩
set_option maxRecDepth 4000 in
theorem pf_oth_trans {i : Nat} {σ τ ρ : KS} (h : pf_oth i σ τ) (g : pf_oth i τ ρ) : pf_oth i σ ρ := fun j hj => by
  obtain ⟨⟨a1, a2, a3, a4, a5, a6, a7, a8, a9, a10, a11, a12, a13, a15, a17⟩, a14, a16, a18⟩ := h j hj
  obtain ⟨⟨b1, b2, b3, b4, b5, b6, b7, b8, b9, b10, b11, b12, b13, b15, b17⟩, b14, b16, b18⟩ := g j hj
  refine ⟨⟨b1.trans a1, b2.trans a2, b3.trans a3, b4.trans a4, b5.trans a5, b6.trans a6, b7.trans a7, b8.trans a8, b9.trans a9, b10.trans a10, b11.trans a11, b12.trans a12, b13.trans a13, b15.trans a15, b17.trans a17⟩, fun w hw => (b14 w hw).trans (a14 w hw), fun w hw => (b16 w hw).trans (a16 w hw), fun q hq => ?_⟩
  obtain ⟨c1, c2, c3, c4, c5⟩ := a18 q hq
  obtain ⟨d1, d2, d3, d4, d5⟩ := b18 q hq
  exact ⟨d1.trans c1, d2.trans c2, d3.trans c3, d4.trans c4, d5.trans c5⟩
set_option maxRecDepth 4000 in
theorem rl_oth {S σ τ : KS} {i j o K KB t : Nat} (h : rl S σ j o K KB t) (g : pf_oth i σ τ) (hj : j ≠ i) : rl S τ j o K KB t := by
  obtain ⟨rate, mon, rule, how, p, lv, ac, u, w0, w1, w2, w3, dp, cg, nb, nf, bl, bd, hT, hM, hA, hB, hP, hD, hN⟩ := h
  obtain ⟨⟨b1, b2, b3, b4, b5, b6, b7, b8, b9, b10, b11, b12, b13, b15, b17⟩, b14, b16, b18⟩ := g j hj
  refine ⟨rate, mon, rule, how, p, lv, ac, u, w0, w1, w2, w3, dp, cg, nb, nf, bl, bd, ?_, ?_, ?_, ?_, ?_, hD, hN⟩
  · obtain ⟨⟨x1, x2, x3⟩, ⟨x4, x5, x6⟩, ⟨x7, x8, x9⟩, ⟨x10, x11, x12⟩, x13, x14, x15, x16, x17⟩ := hT
    exact ⟨⟨x1, b2.trans x2, x3⟩, ⟨x4, b3.trans x5, x6⟩, ⟨x7, b4.trans x8, x9⟩, ⟨x10, b5.trans x11, x12⟩, x13.trans b6.symm, x14, x15, b1.trans x16, x17⟩
  · obtain ⟨⟨x1, y1⟩, ⟨x2, y2⟩, ⟨x3, y3⟩, ⟨x4, y4⟩, ⟨x5, y5⟩, ⟨x6, y6⟩, ⟨x7, y7⟩, ⟨x8, y8⟩⟩ := hM
    exact ⟨⟨x1, b7.trans y1⟩, ⟨x2, b8.trans y2⟩, ⟨x3, b9.trans y3⟩, ⟨x4, b10.trans y4⟩, ⟨x5, (b14 0 (by decide)).trans y5⟩, ⟨x6, (b14 1 (by decide)).trans y6⟩, ⟨x7, (b14 2 (by decide)).trans y7⟩, ⟨x8, (b14 3 (by decide)).trans y8⟩⟩
  · obtain ⟨⟨x1, y1⟩, ⟨x2, y2⟩, ⟨x3, y3⟩⟩ := hA
    exact ⟨⟨x1, b11.trans y1⟩, ⟨x2, b13.trans y2⟩, ⟨x3, b12.trans y3⟩⟩
  · have hnb : nb ≤ 49 := hN.2.2.2.2.1
    refine ⟨⟨hB.1.1, b17.trans hB.1.2⟩, fun q hq => ?_⟩
    obtain ⟨x0, x1, x2, x3, x4, x5⟩ := hB.2 q hq
    obtain ⟨d1, d2, d3, d4, d5⟩ := b18 q (by omega)
    exact ⟨d1.trans x0, x1.trans d1.symm, x2.trans d2.symm, x3.trans d3.symm, x4.trans d4.symm, x5.trans d5.symm⟩
  · exact ⟨hP.1.trans b15.symm, fun w hw => (hP.2 w hw).trans (b16 w hw).symm⟩
/-! bills looked through -/
set_option maxRecDepth 4000 in
theorem pb_bo {σ : KS} {i nb : Nat} {day : Int32} (hi : i < 3) (hnb : nb ≤ 59) (h17 : σ 17 i = nI nb) : ∀ (n k : Nat) (f : Int32), nb ≤ k + n → k ≤ nb → (f = 0 ∨ f = 1) → ((lf_bo σ (nI i) day (n + 1) f (nI k) = 0 ↔ f = 0 ∧ ∀ q, k ≤ q → q < nb → ¬ σ 18 (60 * i + q) = day)) := by
  intro n
  induction n with
  | zero =>
    intro k f hn hk hf
    unfold lf_bo
    rw [ix_ln hi, h17, if_pos ((nI_leI (by omega) (by omega)).2 (by omega))]
    exact ⟨fun h => ⟨h, fun q h1 h2 => by omega⟩, fun h => h.1⟩
  | succ n ih =>
    intro k f hn hk hf
    unfold lf_bo
    rw [ix_ln hi, h17]
    by_cases q : nb ≤ k
    · rw [if_pos ((nI_leI (by omega) (by omega)).2 q)]
      exact ⟨fun h => ⟨h, fun q h1 h2 => by omega⟩, fun h => h.1⟩
    · rw [if_neg (fun h => q ((nI_leI (by omega) (by omega)).1 h)), nI_1, ix_60 hi k (by omega)]
      have n1 : ¬ (1 : Int32) = 0 := by decide
      rcases hf with rfl | rfl
      · rw [if_pos rfl]
        by_cases e : σ 18 (60 * i + k) = day
        · rw [if_pos e, ih (k + 1) 1 (by omega) (by omega) (Or.inr rfl)]
          exact ⟨fun h => absurd h.1 n1, fun h => absurd e (h.2 k (Nat.le_refl _) (by omega))⟩
        · rw [if_neg e, ih (k + 1) 0 (by omega) (by omega) (Or.inl rfl)]
          refine ⟨fun h => ⟨rfl, fun q h1 h2 => ?_⟩, fun h => ⟨rfl, fun q h1 h2 => h.2 q (by omega) h2⟩⟩
          by_cases e2 : q = k
          · rw [e2]
            exact e
          · exact h.2 q (by omega) h2
      · rw [if_neg n1, ih (k + 1) 1 (by omega) (by omega) (Or.inr rfl)]
        exact ⟨fun h => absurd h.1 n1, fun h => absurd h.1 n1⟩
set_option maxRecDepth 4000 in
theorem pb_sub10 {a t : Nat} (ha : a < 100000) (ht : t < 100000) (h : nI a = nI t - 10) : t = a + 10 := by
  have e : nI a + 10 = nI t := by
    rw [h]
    exact Int32.sub_add_cancel _ _
  rw [show nI a + 10 = nI (a + 10) from nI_add a 10] at e
  have := (nI_inj (by omega) (by omega)).1 e
  omega
set_option maxRecDepth 4000 in
theorem pb_latest {S : KS} {nb : Nat} {day : Int32} (hnb : nb ≤ 49) (h30 : S 0 30 = nI nb) : (kB_latestIsOf S day = 0 ↔ (0 < nb → ¬ S 4 (5 * (nb - 1)) = day)) := by
  unfold kB_latestIsOf
  rw [h30]
  by_cases q : nb = 0
  · rw [if_pos ((pv_0lt (by omega)).2 q)]
    exact ⟨fun _ h => by omega, fun _ => rfl⟩
  · rw [if_neg (fun h => q ((pv_0lt (by omega)).1 h))]
    have e : ((nI nb - 1) * 5).toNatClampNeg = 5 * (nb - 1) := by
      obtain ⟨m, rfl⟩ : ∃ m, nb = m + 1 := ⟨nb - 1, by omega⟩
      rw [nI_pred, show nI m * 5 = nI (m * 5) from pk_mul m 5, nI_clamp (by omega)]
      omega
    rw [e]
    by_cases d : S 4 (5 * (nb - 1)) = day
    · rw [if_pos d]
      exact ⟨fun h => absurd h (by decide), fun h => absurd d (h (by omega))⟩
    · rw [if_neg d]
      exact ⟨fun _ _ => d, fun _ => rfl⟩
set_option maxRecDepth 4000 in
/-- on both sides the late fee is due on the same days -/
theorem pb_same {S σ : KS} {i nb t o KB : Nat} {bd : Nat → Nat} (hi : i < 3) (hnb : nb ≤ 49) (hB : rl_B S σ i nb bd) (h01 : σ 0 1 = nI (t + 1)) (ht : t < 5000) (hd1 : ∀ q, q < nb → bd q ≤ pm_due o KB) (hd2 : ∀ q r, q < r → r < nb → bd q + 28 ≤ bd r) (hKB : pm_due o KB ≤ t) : (kB_latestIsOf S (nI (t + 1) - 10) = 0 ∧ kM_billedOn σ (nI i) (σ 0 1 - 10) = 0 ∧ (0 < nb → ¬ t + 1 = bd (nb - 1) + 10)) ∨ (¬ kB_latestIsOf S (nI (t + 1) - 10) = 0 ∧ ¬ kM_billedOn σ (nI i) (σ 0 1 - 10) = 0 ∧ 0 < nb ∧ t + 1 = bd (nb - 1) + 10) := by
  have hL := pb_latest (S := S) (day := nI (t + 1) - 10) hnb hB.1.1
  have hM : kM_billedOn σ (nI i) (σ 0 1 - 10) = 0 ↔ _ := pb_bo (σ := σ) (i := i) (nb := nb) (day := σ 0 1 - 10) hi (by omega) hB.1.2 60 0 0 (by omega) (Nat.zero_le _) (Or.inl rfl)
  rw [h01] at hM ⊢
  have hbd : ∀ q, q < nb → bd q < 100000 := fun q hq => by
    have := hd1 q hq
    omega
  by_cases c : 0 < nb ∧ t + 1 = bd (nb - 1) + 10
  · refine Or.inr ⟨fun h => ?_, fun h => ?_, c⟩
    · refine hL.1 h c.1 ?_
      have hq := hB.2 (nb - 1) (by omega)
      rw [hq.2.1, hq.1, c.2, show nI (bd (nb - 1) + 10) - 10 = nI (bd (nb - 1) + 10 - 10) from pk_sub (b := 10) (by omega), Nat.add_sub_cancel]
    · refine (hM.1 h).2 (nb - 1) (Nat.zero_le _) (by omega) ?_
      have hq := hB.2 (nb - 1) (by omega)
      rw [hq.1, c.2, show nI (bd (nb - 1) + 10) - 10 = nI (bd (nb - 1) + 10 - 10) from pk_sub (b := 10) (by omega), Nat.add_sub_cancel]
  · refine Or.inl ⟨hL.2 (fun h0 e => ?_), hM.2 ⟨rfl, fun q _ hq e => ?_⟩, fun h0 e => c ⟨h0, e⟩⟩
    · have hq := hB.2 (nb - 1) (by omega)
      rw [hq.2.1, hq.1] at e
      exact c ⟨h0, pb_sub10 (hbd _ (by omega)) (by omega) e⟩
    · have hq2 := hB.2 q hq
      rw [hq2.1] at e
      have e2 := pb_sub10 (hbd _ hq) (by omega) e
      by_cases l : q = nb - 1
      · subst l
        exact c ⟨by omega, e2⟩
      · have h1 := hd2 q (nb - 1) (by omega) (by omega)
        have h2 := hd1 (nb - 1) (by omega)
        omega
