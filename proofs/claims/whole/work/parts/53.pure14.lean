/-! pure: what a payment does, in numbers -/
set_option maxRecDepth 4000 in
theorem pe_min2 {a b : Nat} (ha : a < 2 ^ 31) (hb : b < 2 ^ 31) : (if nI a ≤ nI b then nI a else nI b) = nI (min a b) := by
  by_cases h : a ≤ b
  · rw [if_pos ((nI_leI ha hb).2 h), Nat.min_eq_left h]
  · rw [if_neg (fun q => h ((nI_leI ha hb).1 q)), Nat.min_eq_right (by omega)]
def pp_up6 (f : Nat → Int32) (k g0 g1 g2 g3 g4 g5 : Nat) : Nat → Int32 := upd (upd (upd (upd (upd (upd f k (nI g0)) (k + 1) (nI g1)) (k + 2) (nI g2)) (k + 3) (nI g3)) (k + 4) (nI g4)) (k + 5) (nI g5)
def pp_up4 (f : Nat → Int32) (k g0 g1 g2 g3 : Nat) : Nat → Int32 := upd (upd (upd (upd f k (nI g0)) (k + 1) (nI g1)) (k + 2) (nI g2)) (k + 3) (nI g3)
set_option maxRecDepth 4000 in
theorem pp_up4_0 (f : Nat → Int32) (k g0 g1 g2 g3 : Nat) : pp_up4 f k g0 g1 g2 g3 k = nI g0 ∧ pp_up4 f k g0 g1 g2 g3 (k + 1) = nI g1 ∧ pp_up4 f k g0 g1 g2 g3 (k + 2) = nI g2 ∧ pp_up4 f k g0 g1 g2 g3 (k + 3) = nI g3 := by
  unfold pp_up4
  refine ⟨?_, ?_, ?_, ?_⟩
  · rw [up_ne (by omega), up_ne (by omega), up_ne (by omega), up_eq]
  · rw [up_ne (by omega), up_ne (by omega), up_eq]
  · rw [up_ne (by omega), up_eq]
  · rw [up_eq]
set_option maxRecDepth 4000 in
theorem pp_up4_ne {f : Nat → Int32} {k g0 g1 g2 g3 j : Nat} (h : j < k ∨ k + 3 < j) : pp_up4 f k g0 g1 g2 g3 j = f j := by
  unfold pp_up4
  rw [up_ne (by omega), up_ne (by omega), up_ne (by omega), up_ne (by omega)]
set_option maxRecDepth 4000 in
theorem pp_up6_0 (f : Nat → Int32) (k g0 g1 g2 g3 g4 g5 : Nat) : pp_up6 f k g0 g1 g2 g3 g4 g5 k = nI g0 ∧ pp_up6 f k g0 g1 g2 g3 g4 g5 (k + 1) = nI g1 ∧ pp_up6 f k g0 g1 g2 g3 g4 g5 (k + 2) = nI g2 ∧ pp_up6 f k g0 g1 g2 g3 g4 g5 (k + 3) = nI g3 ∧ pp_up6 f k g0 g1 g2 g3 g4 g5 (k + 4) = nI g4 ∧ pp_up6 f k g0 g1 g2 g3 g4 g5 (k + 5) = nI g5 := by
  unfold pp_up6
  refine ⟨?_, ?_, ?_, ?_, ?_, ?_⟩
  · rw [up_ne (by omega), up_ne (by omega), up_ne (by omega), up_ne (by omega), up_ne (by omega), up_eq]
  · rw [up_ne (by omega), up_ne (by omega), up_ne (by omega), up_ne (by omega), up_eq]
  · rw [up_ne (by omega), up_ne (by omega), up_ne (by omega), up_eq]
  · rw [up_ne (by omega), up_ne (by omega), up_eq]
  · rw [up_ne (by omega), up_eq]
  · rw [up_eq]
set_option maxRecDepth 4000 in
theorem pp_up6_ne {f : Nat → Int32} {k g0 g1 g2 g3 g4 g5 j : Nat} (h : j < k ∨ k + 5 < j) : pp_up6 f k g0 g1 g2 g3 g4 g5 j = f j := by
  unfold pp_up6
  rw [up_ne (by omega), up_ne (by omega), up_ne (by omega), up_ne (by omega), up_ne (by omega), up_ne (by omega)]
/-- the numbers of a payment: c cents, w0..w3 owed, principal p -/
def pp_g (c w0 w1 w2 w3 p g0 g1 g2 g3 g4 g5 : Nat) : Prop := g0 = min c w0 ∧ g1 = min (c - g0) w1 ∧ g2 = min (c - g0 - g1) w2 ∧ g3 = min (c - g0 - g1 - g2) w3 ∧ g4 = min (c - g0 - g1 - g2 - g3) (p - g2) ∧ g5 = c - g0 - g1 - g2 - g3 - g4
set_option maxRecDepth 4000 in
theorem pp_g_ex (c w0 w1 w2 w3 p : Nat) : ∃ g0 g1 g2 g3 g4 g5, pp_g c w0 w1 w2 w3 p g0 g1 g2 g3 g4 g5 := ⟨_, _, _, _, _, _, rfl, rfl, rfl, rfl, rfl, rfl⟩
set_option maxRecDepth 4000 in
theorem pp_valN {S : KS} {c w0 w1 w2 w3 p g0 g1 g2 g3 g4 g5 : Nat} (hg : pp_g c w0 w1 w2 w3 p g0 g1 g2 g3 g4 g5) (hc : c ≤ 200000000) (h0 : w0 < 2 ^ 31) (h1 : w1 < 2 ^ 31) (h2 : w2 ≤ p) (h3 : w3 < 2 ^ 31) (hp : p ≤ 100000000) (x1 : S 0 1 = nI p) (x5 : S 1 0 = nI w0) (x6 : S 1 1 = nI w1) (x7 : S 1 2 = nI w2) (x8 : S 1 3 = nI w3) : kN_splitPayment S (nI c) = mkL (S 0 0) (S 0 1) (S 0 2) (S 0 3) (S 0 4) (S 0 5) (S 0 6) (S 0 10) (S 0 11) (S 0 12) (S 0 13) (S 0 14) (S 0 15) (S 0 16) (S 0 20) (S 0 21) (S 0 22) (S 0 30) (S 1) (pp_up6 (S 2) 0 g0 g1 g2 g3 g4 g5) (S 3) (S 4) := by
  obtain ⟨e0, e1, e2, e3, e4, e5⟩ := hg
  unfold kN_splitPayment
  rw [x5, x6, x7, x8]
  rw [pe_kmin (show c < 2 ^ 31 by omega) h0, ← e0, pk_sub (show g0 ≤ c by omega)]
  rw [pe_kmin (show c - g0 < 2 ^ 31 by omega) h1, ← e1, pk_sub (show g1 ≤ c - g0 by omega)]
  rw [pe_kmin (show c - g0 - g1 < 2 ^ 31 by omega) (show w2 < 2 ^ 31 by omega), ← e2, pk_sub (show g2 ≤ c - g0 - g1 by omega)]
  rw [pe_kmin (show c - g0 - g1 - g2 < 2 ^ 31 by omega) h3, ← e3, pk_sub (show g3 ≤ c - g0 - g1 - g2 by omega)]
  have q : S 0 1 - nI g2 = nI (p - g2) := by rw [x1, pk_sub (by omega)]
  rw [q, pe_kmin (show c - g0 - g1 - g2 - g3 < 2 ^ 31 by omega) (show p - g2 < 2 ^ 31 by omega), ← e4, pk_sub (show g4 ≤ c - g0 - g1 - g2 - g3 by omega), ← e5]
  rfl
set_option maxRecDepth 4000 in
theorem pp_valM {σ : KS} {i c w0 w1 w2 w3 p g0 g1 g2 g3 g4 g5 : Nat} (hi : i < 3) (hg : pp_g c w0 w1 w2 w3 p g0 g1 g2 g3 g4 g5) (hc : c ≤ 200000000) (h0 : w0 < 2 ^ 31) (h1 : w1 < 2 ^ 31) (h2 : w2 ≤ p) (h3 : w3 < 2 ^ 31) (hp : p ≤ 100000000) (y1 : σ 7 i = nI p) (y5 : σ 14 (4 * i) = nI w0) (y6 : σ 14 (4 * i + 1) = nI w1) (y7 : σ 14 (4 * i + 2) = nI w2) (y8 : σ 14 (4 * i + 3) = nI w3) : aM_pay_z_10 σ (nI i) (nI c) = nI g0 ∧ aM_pay_z_13 σ (nI i) (nI c) = nI g1 ∧ aM_pay_z_16 σ (nI i) (nI c) = nI g2 ∧ aM_pay_z_19 σ (nI i) (nI c) = nI g3 ∧ aM_pay_z_22 σ (nI i) (nI c) = nI g4 := by
  obtain ⟨e0, e1, e2, e3, e4, e5⟩ := hg
  have i0 : (4 * nI i + 0).toNatClampNeg = 4 * i := ix_4 hi 0 (by decide)
  have i1 : (4 * nI i + 1).toNatClampNeg = 4 * i + 1 := ix_4 hi 1 (by decide)
  have i2 : (4 * nI i + 2).toNatClampNeg = 4 * i + 2 := ix_4 hi 2 (by decide)
  have i3 : (4 * nI i + 3).toNatClampNeg = 4 * i + 3 := ix_4 hi 3 (by decide)
  have j0 : (6 * nI i + 0).toNatClampNeg = 6 * i := ix_6 hi 0 (by decide)
  have j1 : (6 * nI i + 1).toNatClampNeg = 6 * i + 1 := ix_6 hi 1 (by decide)
  have j2 : (6 * nI i + 2).toNatClampNeg = 6 * i + 2 := ix_6 hi 2 (by decide)
  have j3 : (6 * nI i + 3).toNatClampNeg = 6 * i + 3 := ix_6 hi 3 (by decide)
  have z0 : aM_pay_z_10 σ (nI i) (nI c) = nI g0 := by
    unfold aM_pay_z_10
    rw [i0, y5, pe_min2 (by omega) h0, ← e0]
  have z1 : aM_pay_z_13 σ (nI i) (nI c) = nI g1 := by
    unfold aM_pay_z_13
    rw [z0, i0, i1, up_ne (by omega), y6, pk_sub (by omega), pe_min2 (by omega) h1, ← e1]
  have z2 : aM_pay_z_16 σ (nI i) (nI c) = nI g2 := by
    unfold aM_pay_z_16
    rw [z0, z1, i0, i1, i2, up_ne (show ¬ 4 * i + 2 = 4 * i + 1 by omega), up_ne (show ¬ 4 * i + 2 = 4 * i by omega), y7, pk_sub (show g0 ≤ c by omega), pk_sub (by omega), pe_min2 (by omega) (by omega), ← e2]
  have z3 : aM_pay_z_19 σ (nI i) (nI c) = nI g3 := by
    unfold aM_pay_z_19
    rw [z0, z1, z2, i0, i1, i2, i3, up_ne (show ¬ 4 * i + 3 = 4 * i + 2 by omega), up_ne (show ¬ 4 * i + 3 = 4 * i + 1 by omega), up_ne (show ¬ 4 * i + 3 = 4 * i by omega), y8, pk_sub (show g0 ≤ c by omega), pk_sub (show g1 ≤ c - g0 by omega), pk_sub (by omega), pe_min2 (by omega) (by omega), ← e3]
  refine ⟨z0, z1, z2, z3, ?_⟩
  unfold aM_pay_z_22
  rw [z0, z1, z2, z3, j0, j1, j2, j3, ix_ln hi, up_ne (show ¬ 6 * i + 2 = 6 * i + 3 by omega), up_eq, y1, pk_sub (show g0 ≤ c by omega), pk_sub (show g1 ≤ c - g0 by omega), pk_sub (show g2 ≤ c - g0 - g1 by omega), pk_sub (show g3 ≤ c - g0 - g1 - g2 by omega), pk_sub (show g2 ≤ p by omega), pe_min2 (by omega) (by omega), e4, Nat.min_comm]
set_option maxRecDepth 4000 in
theorem pp_spM {σ : KS} {i w0 w1 w2 w3 g0 g1 g2 g3 g4 g5 : Nat} (hi : i < 3) (h0 : g0 ≤ w0) (h1 : g1 ≤ w1) (h2 : g2 ≤ w2) (h3 : g3 ≤ w3) (y5 : σ 14 (4 * i) = nI w0) (y6 : σ 14 (4 * i + 1) = nI w1) (y7 : σ 14 (4 * i + 2) = nI w2) (y8 : σ 14 (4 * i + 3) = nI w3) : pp_split σ (nI i) (nI g0) (nI g1) (nI g2) (nI g3) (nI g4) (nI g5) = mkM 0 (σ 0 1) (σ 0 2) (σ 0 3) (σ 0 4) (σ 0 5) (σ 1) (σ 2) (σ 3) (σ 4) (σ 5) (σ 6) (σ 7) (σ 8) (σ 9) (σ 10) (σ 11) (σ 12) (σ 13) (pp_up4 (σ 14) (4 * i) (w0 - g0) (w1 - g1) (w2 - g2) (w3 - g3)) (upd (σ 15) i 1) (pp_up6 (σ 16) (6 * i) g0 g1 g2 g3 g4 g5) (σ 17) (σ 18) (σ 19) (σ 20) (σ 21) (σ 22) := by
  have i0 : (4 * nI i + 0).toNatClampNeg = 4 * i := ix_4 hi 0 (by decide)
  have i1 : (4 * nI i + 1).toNatClampNeg = 4 * i + 1 := ix_4 hi 1 (by decide)
  have i2 : (4 * nI i + 2).toNatClampNeg = 4 * i + 2 := ix_4 hi 2 (by decide)
  have i3 : (4 * nI i + 3).toNatClampNeg = 4 * i + 3 := ix_4 hi 3 (by decide)
  have j0 : (6 * nI i + 0).toNatClampNeg = 6 * i := ix_6 hi 0 (by decide)
  have j1 : (6 * nI i + 1).toNatClampNeg = 6 * i + 1 := ix_6 hi 1 (by decide)
  have j2 : (6 * nI i + 2).toNatClampNeg = 6 * i + 2 := ix_6 hi 2 (by decide)
  have j3 : (6 * nI i + 3).toNatClampNeg = 6 * i + 3 := ix_6 hi 3 (by decide)
  have j4 : (6 * nI i + 4).toNatClampNeg = 6 * i + 4 := ix_6 hi 4 (by decide)
  have j5 : (6 * nI i + 5).toNatClampNeg = 6 * i + 5 := ix_6 hi 5 (by decide)
  unfold pp_split
  rw [i0, i1, i2, i3, j0, j1, j2, j3, j4, j5, ix_ln hi]
  rw [up_ne (show ¬ 4 * i + 3 = 4 * i + 2 by omega), up_ne (show ¬ 4 * i + 3 = 4 * i + 1 by omega), up_ne (show ¬ 4 * i + 3 = 4 * i by omega), up_ne (show ¬ 4 * i + 2 = 4 * i + 1 by omega), up_ne (show ¬ 4 * i + 2 = 4 * i by omega), up_ne (show ¬ 4 * i + 1 = 4 * i by omega), y5, y6, y7, y8, pk_sub h0, pk_sub h1, pk_sub h2, pk_sub h3]
  rfl
set_option maxRecDepth 4000 in
theorem rl_lv {F T σ τ : KS} {i o K KB t : Nat} {v : Int32} (h : rl F σ i o K KB t) (hw : pw_lv F T v) (hτ : τ = pv_set8 σ i v ∨ (τ = σ ∧ v = F 0 2)) (hv : v = F 0 2 ∨ ∃ lv, lv ≤ 120000000 ∧ v = nI lv) : rl T τ i o K KB t := by
  obtain ⟨rate, mon, rule, how, p, lv, ac, u, w0, w1, w2, w3, dp, cg, nb, nf, bl, bd, hT, hM, hA, hB, hP, hD, ⟨n1, n2, n3⟩, n4⟩ := h
  obtain ⟨⟨a0, a1, a2, a3, a4, a5, a6⟩, ⟨b0, b1, b2, b3, b4, b5, b6⟩, ⟨c0, c1, c2, c3⟩, d1, d2, d4⟩ := hw
  obtain ⟨⟨t1, t2, t3⟩, ⟨t4, t5, t6⟩, ⟨t7, t8, t9⟩, ⟨t10, t11, t12⟩, t13, t14, t15, t16, t17⟩ := hT
  obtain ⟨⟨x1, y1⟩, ⟨x2, y2⟩, ⟨x3, y3⟩, ⟨x4, y4⟩, ⟨x5, y5⟩, ⟨x6, y6⟩, ⟨x7, y7⟩, ⟨x8, y8⟩⟩ := hM
  obtain ⟨⟨z1, z2⟩, ⟨z3, z4⟩, ⟨z5, z6⟩⟩ := hA
  have hv2 : ∃ l, l ≤ 120000000 ∧ v = nI l := by
    rcases hv with e | e
    · exact ⟨lv, n2, e.trans x2⟩
    · exact e
  obtain ⟨l, hl, ev⟩ := hv2
  have key : ∀ τ : KS, (∀ a, a ≠ 8 → 1 ≤ a → a ≤ 22 → τ a = σ a) → τ 8 i = nI l → rl T τ i o K KB t := fun τ g g8 => by
    refine ⟨rate, mon, rule, how, p, l, ac, u, w0, w1, w2, w3, dp, cg, nb, nf, bl, bd, ?_, ?_, ?_, ?_, ?_, ⟨a5.trans hD.1, a6.trans hD.2⟩, ⟨n1, hl, n3⟩, n4⟩
    · rw [rl_T, g 2 (by decide) (by decide) (by decide), g 3 (by decide) (by decide) (by decide), g 4 (by decide) (by decide) (by decide), g 5 (by decide) (by decide) (by decide), g 6 (by decide) (by decide) (by decide), g 1 (by decide) (by decide) (by decide), b0, b1, b2, b3, b4, b5, b6]
      exact ⟨⟨t1, t2, t3⟩, ⟨t4, t5, t6⟩, ⟨t7, t8, t9⟩, ⟨t10, t11, t12⟩, t13, t14, t15, t16, t17⟩
    · rw [rl_M, g 7 (by decide) (by decide) (by decide), g 9 (by decide) (by decide) (by decide), g 10 (by decide) (by decide) (by decide), g 14 (by decide) (by decide) (by decide), a1, a2, a3, a4, d1]
      exact ⟨⟨x1, y1⟩, ⟨ev, g8⟩, ⟨x3, y3⟩, ⟨x4, y4⟩, ⟨x5, y5⟩, ⟨x6, y6⟩, ⟨x7, y7⟩, ⟨x8, y8⟩⟩
    · rw [rl_A, g 11 (by decide) (by decide) (by decide), g 12 (by decide) (by decide) (by decide), g 13 (by decide) (by decide) (by decide), c0, c1, c2]
      exact ⟨⟨z1, z2⟩, ⟨z3, z4⟩, ⟨z5, z6⟩⟩
    · rw [rl_B, g 17 (by decide) (by decide) (by decide), g 18 (by decide) (by decide) (by decide), g 19 (by decide) (by decide) (by decide), g 20 (by decide) (by decide) (by decide), g 21 (by decide) (by decide) (by decide), g 22 (by decide) (by decide) (by decide), c3, d4]
      exact hB
    · rw [rl_P, g 15 (by decide) (by decide) (by decide), g 16 (by decide) (by decide) (by decide), a0, d2]
      exact hP
  rcases hτ with e | ⟨e, e2⟩
  · subst e
    refine key _ (fun a h8 h1 h2 => ?_) ?_
    · have hc : a = 1 ∨ a = 2 ∨ a = 3 ∨ a = 4 ∨ a = 5 ∨ a = 6 ∨ a = 7 ∨ a = 9 ∨ a = 10 ∨ a = 11 ∨ a = 12 ∨ a = 13 ∨ a = 14 ∨ a = 15 ∨ a = 16 ∨ a = 17 ∨ a = 18 ∨ a = 19 ∨ a = 20 ∨ a = 21 ∨ a = 22 := by omega
      rcases hc with rfl | rfl | rfl | rfl | rfl | rfl | rfl | rfl | rfl | rfl | rfl | rfl | rfl | rfl | rfl | rfl | rfl | rfl | rfl | rfl | rfl <;> rfl
    · show upd (σ 8) i v i = _
      rw [up_eq, ev]
  · subst e
    refine key _ (fun a _ _ _ => rfl) ?_
    rw [y2, ← ev, e2, x2]
set_option maxRecDepth 4000 in
theorem pf_oth_set8 {σ : KS} {i : Nat} {v : Int32} : pf_oth i σ (pv_set8 σ i v) := fun j hj => by
  refine ⟨⟨rfl, rfl, rfl, rfl, rfl, rfl, rfl, ?_, rfl, rfl, rfl, rfl, rfl, rfl, rfl⟩, fun w hw => rfl, fun _ _ => rfl, fun _ _ => ⟨rfl, rfl, rfl, rfl, rfl⟩⟩
  show upd (σ 8) i _ j = _
  rw [up_ne hj]
