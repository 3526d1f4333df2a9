/-! pure: a loan opened on both sides -/
set_option maxRecDepth 4000 in
theorem win_nat {v : Int32} {a b : Nat} (hb : b < 2 ^ 31) (hab : a ≤ b) (h : ¬ kM_within v (nI a) (nI b) = 0) : ∃ n, a ≤ n ∧ n ≤ b ∧ v = nI n := by
  have h2 := kx_win h
  rw [nI_toInt (by omega), nI_toInt hb] at h2
  exact ⟨v.toInt.toNat, by omega, by omega, i32_of (by omega) (by omega)⟩
set_option maxRecDepth 4000 in
theorem pf_hpp {σ : KS} {ln : Int32} {o t K mon : Nat} (h01 : σ 0 1 = nI t) (h1 : σ 1 ln.toNatClampNeg = nI o) (h3 : σ 3 ln.toNatClampNeg = nI mon) (hmon : mon ≤ 36) (ho : o ≤ 1500) (hot : o ≤ t) (ht : t < 5000) (hK1 : pm_due o K ≤ t) (hK2 : t < pm_due o (K + 1)) (hKl : K < 60) : (∀ k : Int32, (kM_firstBehind σ ln).toInt ≤ k.toInt → ¬ σ 3 ln.toNatClampNeg < k → kM_dueDay (σ 1 ln.toNatClampNeg) k ≤ 1073741824) ∧ (σ 3 ln.toNatClampNeg).toInt ≤ 36 := by
  rw [pf_firstBehind h01 h1 hot ht hK1 hK2, h1, h3, nI_toInt (by omega), nI_toInt (by omega)]
  refine ⟨fun k hk hm => ?_, by omega⟩
  have hm2 := Int32.not_lt.1 hm
  have hm3 := Int32.le_iff_toInt_le.1 hm2
  rw [nI_toInt (by omega)] at hm3
  obtain ⟨m, hm4, rfl⟩ : ∃ m : Nat, m ≤ 36 ∧ k = nI m := ⟨k.toInt.toNat, by omega, i32_of (by omega) (by omega)⟩
  rw [pe_dueDay (by omega) (by omega)]
  have := pm_due_le o m
  exact nI_le (b := 1073741824) (by omega) (by decide)
def po_st (σ : KS) (n : Nat) (p rate mon rule how st : Int32) : KS := mkM 0 (σ 0 1) ((σ 0 2) + 1) (σ 0 3) (σ 0 4) (σ 0 5) (upd (σ 1) n (σ 0 1)) (upd (σ 2) n rate) (upd (σ 3) n mon) (upd (σ 4) n rule) (upd (σ 5) n how) (upd (σ 6) n st) (upd (σ 7) n p) (σ 8) (σ 9) (upd (σ 10) n (σ 0 1)) (σ 11) (σ 12) (σ 13) (σ 14) (σ 15) (σ 16) (σ 17) (σ 18) (σ 19) (σ 20) (σ 21) (σ 22)
set_option maxRecDepth 4000 in
theorem pf_oth_po {σ : KS} {n : Nat} {p rate mon rule how st : Int32} : pf_oth n σ (po_st σ n p rate mon rule how st) := fun j hj => by
  refine ⟨⟨?_, ?_, ?_, ?_, ?_, ?_, ?_, rfl, rfl, ?_, rfl, rfl, rfl, rfl, rfl⟩, fun _ _ => rfl, fun _ _ => rfl, fun _ _ => ⟨rfl, rfl, rfl, rfl, rfl⟩⟩
  · exact up_ne hj
  · exact up_ne hj
  · exact up_ne hj
  · exact up_ne hj
  · exact up_ne hj
  · exact up_ne hj
  · exact up_ne hj
  · exact up_ne hj
set_option maxRecDepth 4000 in
theorem rl_made {σ : KS} {n t p rate mon rule how : Nat} {st : Int32} (ht : t ≤ 1500) (h01 : σ 0 1 = nI t) (hf : rd_f σ n) (hp : p ≤ 100000000) (hrt : rate ≤ 30000) (hmon : mon ≤ 36) (hru : rule < 4) (hho : how < 4) : rl (kD_made (nI p) (nI rate) (nI mon) (nI rule) (nI how) st (nI t)) (po_st σ n (nI p) (nI rate) (nI mon) (nI rule) (nI how) st) n t 0 0 t := by
  obtain ⟨⟨f8, f9, f11, f12, f13, f15, f17⟩, f14, f16⟩ := hf
  refine ⟨rate, mon, rule, how, p, 0, 0, t, 0, 0, 0, 0, 0, 0, 0, 0, 0, fun _ => 0, ?_, ?_, ?_, ?_, ?_, ?_, ?_⟩
  · refine ⟨⟨rfl, up_eq _ _ _, hrt⟩, ⟨rfl, up_eq _ _ _, hmon⟩, ⟨rfl, up_eq _ _ _, hru⟩, ⟨rfl, up_eq _ _ _, hho⟩, (up_eq _ _ _).symm, pe_monthOf (by omega), pe_number (by omega), ?_, ht⟩
    show upd (σ 1) n (σ 0 1) n = _
    rw [up_eq, h01]
  · refine ⟨⟨rfl, up_eq _ _ _⟩, ⟨rfl, f8⟩, ⟨rfl, f9⟩, ⟨rfl, ?_⟩, ⟨rfl, f14 0 (by decide)⟩, ⟨rfl, f14 1 (by decide)⟩, ⟨rfl, f14 2 (by decide)⟩, ⟨rfl, f14 3 (by decide)⟩⟩
    show upd (σ 10) n (σ 0 1) n = _
    rw [up_eq, h01]
  · exact ⟨⟨rfl, f11⟩, ⟨rfl, f13⟩, ⟨rfl, f12⟩⟩
  · exact ⟨⟨rfl, f17⟩, fun q hq => absurd hq (Nat.not_lt_zero q)⟩
  · exact ⟨f15.symm, fun w hw => (f16 w hw).symm⟩
  · refine ⟨rfl, ?_⟩
    exact pe_dueDayT (S := mkL 0 (nI p) 0 0 (nI t) 0 0 (nI rate) (nI mon) (nI rule) (nI how) st (kY_monthOf (nI t)) (kY_numberInMonth (nI t)) 0 0 0 0 (fun _ => 0) (fun _ => 0) (fun _ => 0) (fun _ => 0)) (d := t) (k := 1) (by omega) (by omega) (pe_monthOf (by omega)) (pe_number (by omega))
  · refine ⟨⟨hp, by omega, Nat.le_refl _, Nat.le_refl _, by omega, by omega⟩, ⟨by omega, by omega, by omega⟩, ⟨by decide, by decide, by omega, by omega⟩, by omega, by omega, fun q hq => absurd hq (Nat.not_lt_zero q), fun q r _ hr => absurd hr (Nat.not_lt_zero r), fun h => absurd h (by decide)⟩
set_option maxRecDepth 4000 in
/-- what opening gives, both sides -/
theorem rd_open {Ls : kLs} {σ : KS} {t : Nat} (h : rd Ls σ t) (p rate mon rule how st : Int32) : ((kD_open km0 (nI t) (nI Ls.length) p rate mon rule how st).1 = 1 ∧ (kM_open σ p rate mon rule how st).2 0 0 = 1 ∧ rd Ls (kM_open σ p rate mon rule how st).2 t) ∨ ((kD_open km0 (nI t) (nI Ls.length) p rate mon rule how st).1 = 2 ∧ (kM_open σ p rate mon rule how st).2 0 0 = 2 ∧ rd Ls (kM_open σ p rate mon rule how st).2 t) ∨ ((kD_open km0 (nI t) (nI Ls.length) p rate mon rule how st).1 = 0 ∧ (kM_open σ p rate mon rule how st).2 0 0 = 0 ∧ Ls.length < 3 ∧ (kD_open km0 (nI t) (nI Ls.length) p rate mon rule how st).2.1 = (kM_open σ p rate mon rule how st).1 ∧ ∀ a : Nat → Nat, rd (Ls ++ [(a, kN_reckonLevel (kD_made p rate mon rule how st (nI t)) (nI t))]) (kM_open σ p rate mon rule how st).2 t) := by
  obtain ⟨h1, h2, h3, h4, h5, h6⟩ := h
  unfold kD_open kM_open
  have hb : ∀ v a b, kD_within v a b = kM_within v a b := fun _ _ _ => rfl
  rw [hb, hb, hb, hb, hb]
  by_cases c1 : kM_within p 1 100000000 = 0
  · rw [if_pos c1, if_pos c1]
    exact Or.inl ⟨rfl, rfl, h1, h2, h3, h4, h5, h6⟩
  rw [if_neg c1, if_neg c1]
  by_cases c2 : kM_within rate 0 30000 = 0
  · rw [if_pos c2, if_pos c2]
    exact Or.inl ⟨rfl, rfl, h1, h2, h3, h4, h5, h6⟩
  rw [if_neg c2, if_neg c2]
  by_cases c3 : kM_within mon 1 36 = 0
  · rw [if_pos c3, if_pos c3]
    exact Or.inl ⟨rfl, rfl, h1, h2, h3, h4, h5, h6⟩
  rw [if_neg c3, if_neg c3]
  by_cases c4 : kM_within rule 0 3 = 0
  · rw [if_pos c4, if_pos c4]
    exact Or.inl ⟨rfl, rfl, h1, h2, h3, h4, h5, h6⟩
  rw [if_neg c4, if_neg c4]
  by_cases c5 : kM_within how 0 3 = 0
  · rw [if_pos c5, if_pos c5]
    exact Or.inl ⟨rfl, rfl, h1, h2, h3, h4, h5, h6⟩
  rw [if_neg c5, if_neg c5]
  by_cases c6 : Ls.length = 3
  · have e : σ 0 2 = 3 := by rw [h3, c6]; rfl
    rw [if_pos e, if_neg (show ¬ nI Ls.length < 3 by rw [c6]; decide)]
    exact Or.inr (Or.inl ⟨rfl, rfl, h1, h2, h3, h4, h5, h6⟩)
  have hl3 : Ls.length < 3 := by omega
  rw [if_neg (show ¬ σ 0 2 = 3 from fun q => c6 ((nI_inj (b := 3) (by omega) (by decide)).1 (h3.symm.trans q))), if_pos (show nI Ls.length < 3 from nI_lt (b := 3) hl3 (by decide))]
  obtain ⟨pn, p1, p2, rfl⟩ := win_nat (a := 1) (b := 100000000) (by decide) (by decide) c1
  obtain ⟨rn, r1, r2, rfl⟩ := win_nat (a := 0) (b := 30000) (by decide) (by decide) c2
  obtain ⟨mn, m1, m2, rfl⟩ := win_nat (a := 1) (b := 36) (by decide) (by decide) c3
  obtain ⟨un, u1, u2, rfl⟩ := win_nat (a := 0) (b := 3) (by decide) (by decide) c4
  obtain ⟨hn, v1, v2, rfl⟩ := win_nat (a := 0) (b := 3) (by decide) (by decide) c5
  have hcl : (nI Ls.length).toNatClampNeg = Ls.length := nI_clamp (by omega)
  have hmade := rl_made (σ := σ) (n := Ls.length) (t := t) (p := pn) (rate := rn) (mon := mn) (rule := un) (how := hn) (st := st) h1 h2 (h6 _ (Nat.le_refl _)) p2 r2 m2 (by omega) (by omega)
  have hd0 := pm_due_0 t
  have hd1 := pm_due_gap t 0
  have est : mkM 0 (σ 0 1) ((σ 0 2) + 1) (σ 0 3) (σ 0 4) (σ 0 5) (upd (σ 1) ((σ 0 2).toNatClampNeg) (σ 0 1)) (upd (σ 2) ((σ 0 2).toNatClampNeg) (nI rn)) (upd (σ 3) ((σ 0 2).toNatClampNeg) (nI mn)) (upd (σ 4) ((σ 0 2).toNatClampNeg) (nI un)) (upd (σ 5) ((σ 0 2).toNatClampNeg) (nI hn)) (upd (σ 6) ((σ 0 2).toNatClampNeg) st) (upd (σ 7) ((σ 0 2).toNatClampNeg) (nI pn)) (σ 8) (σ 9) (upd (σ 10) ((σ 0 2).toNatClampNeg) (σ 0 1)) (σ 11) (σ 12) (σ 13) (σ 14) (σ 15) (σ 16) (σ 17) (σ 18) (σ 19) (σ 20) (σ 21) (σ 22) = po_st σ Ls.length (nI pn) (nI rn) (nI mn) (nI un) (nI hn) st := by
    rw [h3, hcl]
    unfold po_st
    rw [h3]
  rw [est]
  have e1 : po_st σ Ls.length (nI pn) (nI rn) (nI mn) (nI un) (nI hn) st 1 (σ 0 2).toNatClampNeg = nI t := by
    rw [h3, hcl]
    exact (up_eq _ _ _).trans h2
  have e2 : po_st σ Ls.length (nI pn) (nI rn) (nI mn) (nI un) (nI hn) st 2 (σ 0 2).toNatClampNeg = nI rn := by
    rw [h3, hcl]
    exact up_eq _ _ _
  have e3 : po_st σ Ls.length (nI pn) (nI rn) (nI mn) (nI un) (nI hn) st 3 (σ 0 2).toNatClampNeg = nI mn := by
    rw [h3, hcl]
    exact up_eq _ _ _
  have e4 : po_st σ Ls.length (nI pn) (nI rn) (nI mn) (nI un) (nI hn) st 4 (σ 0 2).toNatClampNeg = nI un := by
    rw [h3, hcl]
    exact up_eq _ _ _
  have e5 : po_st σ Ls.length (nI pn) (nI rn) (nI mn) (nI un) (nI hn) st 5 (σ 0 2).toNatClampNeg = nI hn := by
    rw [h3, hcl]
    exact up_eq _ _ _
  obtain ⟨v, w1, w2, w3⟩ := pf_reckon (S := kD_made (nI pn) (nI rn) (nI mn) (nI un) (nI hn) st (nI t)) (σ := po_st σ Ls.length (nI pn) (nI rn) (nI mn) (nI un) (nI hn) st) (ln := σ 0 2) (t := t) (o := t) (K := 0) (amount := pn) rfl rfl rfl rfl (pe_monthOf (by omega)) (pe_number (by omega)) rfl (Int32.sub_zero _) h2 e1 e2 e3 e4 e5 r2 (by omega) (by omega) h1 m2 (by omega) (Nat.le_refl _) (by omega) (by omega) (by omega) p2
  have hcl2 : (σ 0 2).toNatClampNeg = Ls.length := by rw [h3, hcl]
  rw [hcl2] at w2
  have hR := rl_lv hmade w1 w2 w3
  refine Or.inr (Or.inr ⟨rfl, ?_, hl3, ?_, fun a => ?_⟩)
  · show kM_reckon _ _ _ 0 0 = 0
    rcases w2 with e | ⟨e, _⟩
    · rw [e]; rfl
    · rw [e]; rfl
  · show nI Ls.length + 1 - 1 = σ 0 2
    rw [h3, nI_1, nI_pred]
  · show rd _ (kM_reckon (po_st σ Ls.length (nI pn) (nI rn) (nI mn) (nI un) (nI hn) st) (σ 0 2) (nI pn)) t
    have hoth : pf_oth Ls.length σ (kM_reckon (po_st σ Ls.length (nI pn) (nI rn) (nI mn) (nI un) (nI hn) st) (σ 0 2) (nI pn)) := by
      rcases w2 with e | ⟨e, _⟩
      · rw [e]
        exact pf_oth_trans pf_oth_po pf_oth_set8
      · rw [e]
        exact pf_oth_po
    have hz : kM_reckon (po_st σ Ls.length (nI pn) (nI rn) (nI mn) (nI un) (nI hn) st) (σ 0 2) (nI pn) 0 1 = nI t ∧ kM_reckon (po_st σ Ls.length (nI pn) (nI rn) (nI mn) (nI un) (nI hn) st) (σ 0 2) (nI pn) 0 2 = nI (Ls.length + 1) := by
      rcases w2 with e | ⟨e, _⟩
      · rw [e]
        refine ⟨h2, ?_⟩
        show σ 0 2 + 1 = _
        rw [h3, nI_1]
      · rw [e]
        refine ⟨h2, ?_⟩
        show σ 0 2 + 1 = _
        rw [h3, nI_1]
    have hlen : (Ls ++ [(a, kN_reckonLevel (kD_made (nI pn) (nI rn) (nI mn) (nI un) (nI hn) st (nI t)) (nI t))]).length = Ls.length + 1 := by
      rw [List.length_append]
      rfl
    refine ⟨h1, hz.1, hlen ▸ hz.2, hlen ▸ hl3, fun i x hx => ?_, fun j hj => ?_⟩
    · by_cases q : i < Ls.length
      · rw [List.getElem?_append_left q] at hx
        exact rl_ok_oth (h5 i x hx) hoth (by omega)
      · by_cases q2 : i = Ls.length
        · subst q2
          rw [List.getElem?_append_right (Nat.le_refl _), Nat.sub_self] at hx
          cases hx
          exact ⟨t, 0, hR, Nat.le_refl _, by omega, by omega⟩
        · rw [List.getElem?_append_right (by omega)] at hx
          have : i - Ls.length = (i - Ls.length - 1) + 1 := by omega
          rw [this] at hx
          cases hx
    · rw [hlen] at hj
      exact rd_f_oth (h6 j (by omega)) hoth (by omega)
set_option maxRecDepth 4000 in
theorem rd_open_hpp {Ls : kLs} {σ : KS} {t : Nat} (h : rd Ls σ t) (p rate mon rule how st : Int32) : ¬ kM_within mon 1 36 = 0 → ¬ σ 0 2 = 3 → (∀ k : Int32, (kM_firstBehind (mkM 0 (σ 0 1) ((σ 0 2) + 1) (σ 0 3) (σ 0 4) (σ 0 5) (upd (σ 1) ((σ 0 2).toNatClampNeg) (σ 0 1)) (upd (σ 2) ((σ 0 2).toNatClampNeg) rate) (upd (σ 3) ((σ 0 2).toNatClampNeg) mon) (upd (σ 4) ((σ 0 2).toNatClampNeg) rule) (upd (σ 5) ((σ 0 2).toNatClampNeg) how) (upd (σ 6) ((σ 0 2).toNatClampNeg) st) (upd (σ 7) ((σ 0 2).toNatClampNeg) p) (σ 8) (σ 9) (upd (σ 10) ((σ 0 2).toNatClampNeg) (σ 0 1)) (σ 11) (σ 12) (σ 13) (σ 14) (σ 15) (σ 16) (σ 17) (σ 18) (σ 19) (σ 20) (σ 21) (σ 22)) (σ 0 2)).toInt ≤ k.toInt → ¬ (mkM 0 (σ 0 1) ((σ 0 2) + 1) (σ 0 3) (σ 0 4) (σ 0 5) (upd (σ 1) ((σ 0 2).toNatClampNeg) (σ 0 1)) (upd (σ 2) ((σ 0 2).toNatClampNeg) rate) (upd (σ 3) ((σ 0 2).toNatClampNeg) mon) (upd (σ 4) ((σ 0 2).toNatClampNeg) rule) (upd (σ 5) ((σ 0 2).toNatClampNeg) how) (upd (σ 6) ((σ 0 2).toNatClampNeg) st) (upd (σ 7) ((σ 0 2).toNatClampNeg) p) (σ 8) (σ 9) (upd (σ 10) ((σ 0 2).toNatClampNeg) (σ 0 1)) (σ 11) (σ 12) (σ 13) (σ 14) (σ 15) (σ 16) (σ 17) (σ 18) (σ 19) (σ 20) (σ 21) (σ 22)) 3 (σ 0 2).toNatClampNeg < k → kM_dueDay ((mkM 0 (σ 0 1) ((σ 0 2) + 1) (σ 0 3) (σ 0 4) (σ 0 5) (upd (σ 1) ((σ 0 2).toNatClampNeg) (σ 0 1)) (upd (σ 2) ((σ 0 2).toNatClampNeg) rate) (upd (σ 3) ((σ 0 2).toNatClampNeg) mon) (upd (σ 4) ((σ 0 2).toNatClampNeg) rule) (upd (σ 5) ((σ 0 2).toNatClampNeg) how) (upd (σ 6) ((σ 0 2).toNatClampNeg) st) (upd (σ 7) ((σ 0 2).toNatClampNeg) p) (σ 8) (σ 9) (upd (σ 10) ((σ 0 2).toNatClampNeg) (σ 0 1)) (σ 11) (σ 12) (σ 13) (σ 14) (σ 15) (σ 16) (σ 17) (σ 18) (σ 19) (σ 20) (σ 21) (σ 22)) 1 (σ 0 2).toNatClampNeg) k ≤ 1073741824) ∧ ((mkM 0 (σ 0 1) ((σ 0 2) + 1) (σ 0 3) (σ 0 4) (σ 0 5) (upd (σ 1) ((σ 0 2).toNatClampNeg) (σ 0 1)) (upd (σ 2) ((σ 0 2).toNatClampNeg) rate) (upd (σ 3) ((σ 0 2).toNatClampNeg) mon) (upd (σ 4) ((σ 0 2).toNatClampNeg) rule) (upd (σ 5) ((σ 0 2).toNatClampNeg) how) (upd (σ 6) ((σ 0 2).toNatClampNeg) st) (upd (σ 7) ((σ 0 2).toNatClampNeg) p) (σ 8) (σ 9) (upd (σ 10) ((σ 0 2).toNatClampNeg) (σ 0 1)) (σ 11) (σ 12) (σ 13) (σ 14) (σ 15) (σ 16) (σ 17) (σ 18) (σ 19) (σ 20) (σ 21) (σ 22)) 3 (σ 0 2).toNatClampNeg).toInt ≤ 36 := fun c1 _ => by
  obtain ⟨h1, h2, h3, h4, h5, h6⟩ := h
  obtain ⟨mn, m1, m2, rfl⟩ := win_nat (a := 1) (b := 36) (by decide) (by decide) c1
  have hd0 := pm_due_0 t
  have hd1 := pm_due_gap t 0
  exact pf_hpp (o := t) (t := t) (K := 0) (mon := mn) h2 ((up_eq _ _ _).trans h2) (up_eq _ _ _) m2 h1 (Nat.le_refl _) (by omega) (by omega) (by omega) (by omega)
