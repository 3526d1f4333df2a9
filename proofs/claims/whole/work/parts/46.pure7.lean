/-! pure: how many due days went by; the level reckoned anew on both sides -/
set_option maxRecDepth 4000 in
theorem pm_due_le (d k : Nat) : pm_due d k < d + 31 * (k + 1) := by
  have h1 := (pm_due_is d k).2
  have h2 : pm_first (pm_month d + k + 1) ≤ pm_first (pm_month d) + 31 * (k + 1) := by
    clear h1
    induction k with
    | zero =>
      have := pm_first_succ (pm_month d)
      rw [Nat.add_zero]
      omega
    | succ k ih =>
      have := pm_first_succ (pm_month d + k + 1)
      rw [show pm_month d + (k + 1) + 1 = pm_month d + k + 1 + 1 by omega]
      omega
  have h3 := (pm_month_is d).1
  omega
set_option maxRecDepth 4000 in
theorem pm_due_gap2 (d k : Nat) : pm_due d (k + 1) ≤ pm_due d k + 62 := by
  have h1 := (pm_due_is d k).1
  have h2 := (pm_due_is d (k + 1)).2
  have h3 := pm_first_succ (pm_month d + k)
  have h4 := pm_first_succ (pm_month d + k + 1)
  rw [show pm_month d + (k + 1) + 1 = pm_month d + k + 1 + 1 by omega] at h2
  omega
set_option maxRecDepth 4000 in
theorem pm_due_mono {d a b : Nat} (h : a ≤ b) : pm_due d a ≤ pm_due d b := by
  rcases Nat.lt_or_ge a b with q | q
  · exact Nat.le_of_lt (pm_due_lt q)
  · rw [show a = b by omega]
    exact Nat.le_refl _
set_option maxRecDepth 4000 in
theorem pf_since {σ : KS} {ln : Int32} {o t : Nat} (h01 : σ 0 1 = nI t) (h1 : σ 1 ln.toNatClampNeg = nI o) (hot : o ≤ t) (ht : t < 90000) : kM_monthsSince σ ln = nI (pm_month t - pm_month o) := by
  unfold kM_monthsSince
  rw [h01, h1, pe_find ht, pe_find (show o < 90000 by omega)]
  have hm := pe_mon hot
  show (((12 * nI (2000 + pm_month t / 12)) + nI (pm_month t % 12 + 1)) - (12 * nI (2000 + pm_month o / 12))) - nI (pm_month o % 12 + 1) = _
  rw [show ∀ x, (12 : Int32) * nI x = nI (12 * x) from fun x => pk_mul 12 x, show ∀ x, (12 : Int32) * nI x = nI (12 * x) from fun x => pk_mul 12 x, nI_add, pk_sub (by omega), pk_sub (by omega)]
  congr 1
  omega
set_option maxRecDepth 4000 in
theorem pf_K {o t K : Nat} (hot : o ≤ t) (hK1 : pm_due o K ≤ t) (hK2 : t < pm_due o (K + 1)) : (pm_due o (pm_month t - pm_month o) ≤ t ∧ K = pm_month t - pm_month o) ∨ (t < pm_due o (pm_month t - pm_month o) ∧ K + 1 = pm_month t - pm_month o) := by
  have hm := pe_mon hot
  have ht := pm_month_is t
  have hn := pm_due_is o (pm_month t - pm_month o + 1)
  have hlt : t < pm_due o (pm_month t - pm_month o + 1) := by
    have h1 := ht.2
    have h2 := hn.1
    rw [show pm_month o + (pm_month t - pm_month o + 1) = pm_month t + 1 by omega] at h2
    omega
  rcases Nat.lt_or_ge t (pm_due o (pm_month t - pm_month o)) with q | q
  · refine Or.inr ⟨q, ?_⟩
    have hk : K < pm_month t - pm_month o := Nat.not_le.mp (fun h => by
      have := pm_due_mono (d := o) h
      omega)
    have hp := pm_due_is o (pm_month t - pm_month o - 1)
    have hle : pm_due o (pm_month t - pm_month o - 1) ≤ t := by
      have h1 := ht.1
      have h2 := hp.2
      rw [show pm_month o + (pm_month t - pm_month o - 1) + 1 = pm_month t by omega] at h2
      omega
    rcases Nat.lt_or_ge (K + 1) (pm_month t - pm_month o) with r | r
    · have := pm_due_mono (d := o) (show K + 1 ≤ pm_month t - pm_month o - 1 by omega)
      omega
    · omega
  · refine Or.inl ⟨q, ?_⟩
    rcases Nat.lt_trichotomy K (pm_month t - pm_month o) with r | r | r
    · have := pm_due_mono (d := o) (show K + 1 ≤ pm_month t - pm_month o from r)
      omega
    · exact r
    · have := pm_due_mono (d := o) (show pm_month t - pm_month o + 1 ≤ K from r)
      omega
set_option maxRecDepth 4000 in
theorem pf_firstBehind {σ : KS} {ln : Int32} {o t K : Nat} (h01 : σ 0 1 = nI t) (h1 : σ 1 ln.toNatClampNeg = nI o) (hot : o ≤ t) (ht : t < 5000) (hK1 : pm_due o K ≤ t) (hK2 : t < pm_due o (K + 1)) : kM_firstBehind σ ln = nI (K + 1) := by
  unfold kM_firstBehind
  rw [pf_since h01 h1 hot (by omega)]
  have hK := pf_K hot hK1 hK2
  have hml : pm_month t ≤ t := by
    have := (pm_month_is t).1
    have := pm_first_ge (pm_month t)
    omega
  have h0 := pm_due_0 o
  generalize hk : pm_month t - pm_month o = k at *
  have hk1 : k < 1000 := by
    have := (pm_month_is t).1
    have := pm_first_ge (pm_month t)
    omega
  by_cases q : k < 1
  · rw [if_pos (show nI k < 1 from nI_lt (b := 1) q (by decide)), nI_1]
    have e : k = 0 := by omega
    subst e
    congr 1
    rcases hK with ⟨_, e⟩ | ⟨h, _⟩
    · omega
    · omega
  · rw [if_neg (show ¬ nI k < 1 from nI_nlt (b := 1) (by omega) (by omega)), h1, pe_dueDay (by omega) hk1, h01]
    have hdl := pm_due_le o k
    rcases hK with ⟨h, e⟩ | ⟨h, e⟩
    · rw [if_neg (nI_nlt h (by omega)), nI_1, e]
    · rw [if_pos (nI_lt h (by omega)), e]
set_option maxRecDepth 4000 in
theorem pf_whichDue {σ : KS} {ln : Int32} {o t K : Nat} (h01 : σ 0 1 = nI t) (h1 : σ 1 ln.toNatClampNeg = nI o) (hot : o ≤ t) (ht : t < 5000) (hK1 : pm_due o K < t) (hK2 : t ≤ pm_due o (K + 1)) : kM_whichDue σ ln = if t = pm_due o (K + 1) then nI (K + 1) else 0 := by
  unfold kM_whichDue
  rw [pf_since h01 h1 hot (by omega)]
  have hm := pe_mon hot
  have hk1 : pm_month t - pm_month o < 1000 := by
    have := (pm_month_is t).1
    have := pm_first_ge (pm_month t)
    omega
  have hz : (nI (pm_month t - pm_month o) ≤ (0 : Int32)) ↔ pm_month t - pm_month o = 0 := pv_0lt (by omega)
  by_cases e : t = pm_due o (K + 1)
  · have hd := pm_due_is o (K + 1)
    rw [← e] at hd
    have hmt : pm_month t = pm_month o + (K + 1) := pm_is_uniq (pm_month_is t) hd
    have ek : pm_month t - pm_month o = K + 1 := by omega
    rw [if_pos e, ek]
    rw [ek] at hz hk1
    rw [if_neg (fun h => absurd (hz.1 h) (by omega)), h1, pe_dueDay (by omega) hk1, h01, ← e, if_pos rfl]
  · rw [if_neg e]
    by_cases q : pm_month t - pm_month o = 0
    · rw [if_pos (hz.2 q)]
    · rw [if_neg (fun h => q (hz.1 h)), h1, pe_dueDay (by omega) hk1, h01]
      have hdl := pm_due_le o (pm_month t - pm_month o)
      rw [if_neg (fun h => by
        have h' := (nI_inj (by omega) (by omega)).1 h
        rcases Nat.lt_or_ge K (pm_month t - pm_month o) with r | r
        · have := pm_due_mono (d := o) (show K + 1 ≤ pm_month t - pm_month o from r)
          omega
        · have := pm_due_mono (d := o) r
          omega)]
def pw_lv (S T : KS) (v : Int32) : Prop := (T 0 0 = S 0 0 ∧ T 0 1 = S 0 1 ∧ T 0 2 = v ∧ T 0 3 = S 0 3 ∧ T 0 4 = S 0 4 ∧ T 0 5 = S 0 5 ∧ T 0 6 = S 0 6) ∧ (T 0 10 = S 0 10 ∧ T 0 11 = S 0 11 ∧ T 0 12 = S 0 12 ∧ T 0 13 = S 0 13 ∧ T 0 14 = S 0 14 ∧ T 0 15 = S 0 15 ∧ T 0 16 = S 0 16) ∧ (T 0 20 = S 0 20 ∧ T 0 21 = S 0 21 ∧ T 0 22 = S 0 22 ∧ T 0 30 = S 0 30) ∧ (T 1 = S 1 ∧ T 2 = S 2 ∧ T 4 = S 4)
set_option maxRecDepth 4000 in
theorem pw_lv_refl (S : KS) : pw_lv S S (S 0 2) := ⟨⟨rfl, rfl, rfl, rfl, rfl, rfl, rfl⟩, ⟨rfl, rfl, rfl, rfl, rfl, rfl, rfl⟩, ⟨rfl, rfl, rfl, rfl⟩, ⟨rfl, rfl, rfl⟩⟩
set_option maxRecDepth 4000 in
theorem pf_lay {σ : KS} {today : Int32} {rule o K mon cnt : Nat} {fr : Nat → Nat} (hr : rule < 4) (ho : o < 30000) (hmon : mon ≤ 36) (hK : K < 100) (hcm : cnt = mon - K) (hok : pt_ok fr cnt) (hfr : ∀ i, i < cnt → fr (i + 1) = pm_due o (K + 1 + i)) : ∀ (n r i : Nat) (S : KS), i + r = cnt → r ≤ n → S 0 11 = nI mon → S 0 12 = nI rule → S 0 15 = nI (pm_month o) → S 0 16 = nI (pm_num o) → (lf_lay σ today (n + 1) (nI i) (nI (fr i)) (nI (K + 1 + i)) S).1 = nI cnt ∧ pw_lv S (lf_lay σ today (n + 1) (nI i) (nI (fr i)) (nI (K + 1 + i)) S).2 (S 0 2) ∧ ∀ j, (lf_lay σ today (n + 1) (nI i) (nI (fr i)) (nI (K + 1 + i)) S).2 3 j = if i ≤ j ∧ j < cnt then nI (ps_top rule (fr j) (fr (j + 1))) else S 3 j := by
  intro n
  induction n with
  | zero =>
    intro r i S hir hn h11 h12 h15 h16
    have e : r = 0 := by omega
    subst e
    unfold lf_lay
    rw [h11, if_pos (nI_lt (by omega) (by omega))]
    refine ⟨by show nI i = nI cnt; rw [show i = cnt by omega], pw_lv_refl S, fun j => ?_⟩
    rw [if_neg (by omega)]
  | succ n ih =>
    intro r i S hir hn h11 h12 h15 h16
    unfold lf_lay
    cases r with
    | zero =>
      rw [h11, if_pos (nI_lt (by omega) (by omega))]
      refine ⟨by show nI i = nI cnt; rw [show i = cnt by omega], pw_lv_refl S, fun j => ?_⟩
      rw [if_neg (by omega)]
    | succ r =>
      have hi : i < cnt := by omega
      have h1 := hok i hi
      rw [h11, if_neg (nI_nlt (by omega) (by omega)), if_neg (show ¬ (36 : Int32) ≤ nI i from fun h => absurd ((nI_leI (a := 36) (by decide) (by omega)).1 h) (by omega))]
      rw [pe_dueDayT ho (by omega) h15 h16, ← hfr i hi, h12, pe_top hr h1.1 (by omega), nI_1, nI_1, nI_clamp (by omega)]
      have h := ih r (i + 1) (mkL (S 0 0) (S 0 1) (S 0 2) (S 0 3) (S 0 4) (S 0 5) (S 0 6) (S 0 10) (nI mon) (nI rule) (S 0 13) (S 0 14) (S 0 15) (S 0 16) (S 0 20) (S 0 21) (S 0 22) (S 0 30) (S 1) (S 2) (upd (S 3) i (nI (ps_top rule (fr i) (fr (i + 1))))) (S 4)) (by omega) (by omega) rfl rfl h15 h16
      rw [show K + 1 + (i + 1) = K + 1 + i + 1 by omega] at h
      refine ⟨h.1, ?_, fun j => ?_⟩
      · have h2 := h.2.1
        refine ⟨h2.1, ⟨h2.2.1.1, h2.2.1.2.1.trans h11.symm, h2.2.1.2.2.1.trans h12.symm, h2.2.1.2.2.2⟩, h2.2.2⟩
      · rw [h.2.2 j]
        show (if i + 1 ≤ j ∧ j < cnt then _ else upd (S 3) i (nI (ps_top rule (fr i) (fr (i + 1)))) j) = _
        unfold upd
        by_cases q : i + 1 ≤ j ∧ j < cnt
        · rw [if_pos q, if_pos (by omega)]
        · rw [if_neg q]
          by_cases q2 : j = i
          · rw [if_pos q2, if_pos (by omega), q2]
          · rw [if_neg q2, if_neg (by omega)]
def pf_fr (o t K : Nat) (i : Nat) : Nat := if i = 0 then t else pm_due o (K + i)
set_option maxRecDepth 4000 in
theorem pf_fr_ok {o t K cnt : Nat} (ho : o ≤ 1500) (hKc : K + cnt ≤ 60) (hK1 : pm_due o K ≤ t) (hK2 : t < pm_due o (K + 1)) : pt_ok (pf_fr o t K) cnt := fun i hi => by
  unfold pf_fr
  rw [if_neg (show ¬ i + 1 = 0 by omega)]
  have hg := pm_due_gap2 o (K + i)
  have hl := pm_due_lt (d := o) (show K + i < K + i + 1 by omega)
  have hb := pm_due_le o (K + (i + 1))
  rw [show K + (i + 1) = K + i + 1 by omega] at *
  by_cases q : i = 0
  · subst q
    rw [if_pos rfl]
    simp only [Nat.add_zero] at *
    omega
  · rw [if_neg q]
    omega
set_option maxRecDepth 4000 in
/-- both sides reckon the level anew: the same number v -/
theorem pf_reckon {S σ : KS} {ln : Int32} {rate rule how o K mon t amount : Nat} (h10 : S 0 10 = nI rate) (h11 : S 0 11 = nI mon) (h12 : S 0 12 = nI rule) (h13 : S 0 13 = nI how) (h15 : S 0 15 = nI (pm_month o)) (h16 : S 0 16 = nI (pm_num o)) (h5 : S 0 5 = nI K) (ham : S 0 1 - S 1 2 = nI amount) (h01 : σ 0 1 = nI t) (g1 : σ 1 ln.toNatClampNeg = nI o) (g2 : σ 2 ln.toNatClampNeg = nI rate) (g3 : σ 3 ln.toNatClampNeg = nI mon) (g4 : σ 4 ln.toNatClampNeg = nI rule) (g5 : σ 5 ln.toNatClampNeg = nI how) (hrt : rate ≤ 30000) (hr : rule < 4) (hh : how < 4) (ho : o ≤ 1500) (hmon : mon ≤ 36) (hKl : K < 60) (hot : o ≤ t) (ht : t < 5000) (hK1 : pm_due o K ≤ t) (hK2 : t < pm_due o (K + 1)) (ha : amount ≤ 100000000) : ∃ v, pw_lv S (kN_reckonLevel S (nI t)) v ∧ (kM_reckon σ ln (nI amount) = pv_set8 σ ln.toNatClampNeg v ∨ (kM_reckon σ ln (nI amount) = σ ∧ v = S 0 2)) ∧ (v = S 0 2 ∨ ∃ lv, lv ≤ 120000000 ∧ v = nI lv) := by
  by_cases q0 : amount = 0
  · refine ⟨0, ?_, Or.inl ?_, Or.inr ⟨0, by omega, rfl⟩⟩
    · unfold kN_reckonLevel
      rw [ham, q0, if_neg (show ¬ (0 : Int32) < nI 0 by decide)]
      exact pw_lv_refl (mkL (S 0 0) (S 0 1) 0 (S 0 3) (S 0 4) (S 0 5) (S 0 6) (S 0 10) (S 0 11) (S 0 12) (S 0 13) (S 0 14) (S 0 15) (S 0 16) (S 0 20) (S 0 21) (S 0 22) (S 0 30) (S 1) (S 2) (S 3) (S 4))
    · unfold kM_reckon
      rw [q0, if_pos (show nI 0 = (0 : Int32) from rfl)]
      rfl
  · have hfb := pf_firstBehind h01 g1 hot ht hK1 hK2
    have hpos : (0 : Int32) < nI amount := nI_lt (a := 0) (by omega) (by omega)
    have hcm : mon - K = mon - K := rfl
    generalize hcnt : mon - K = cnt at hcm
    have hok : pt_ok (pf_fr o t K) cnt := by
      by_cases qq : cnt = 0
      · subst qq
        intro i hi
        omega
      · exact pf_fr_ok ho (by omega) hK1 hK2
    have hfr : ∀ i, i < cnt → pf_fr o t K (i + 1) = pm_due o (K + 1 + i) := fun i _ => by
      unfold pf_fr
      rw [if_neg (by omega), show K + (i + 1) = K + 1 + i by omega]
    have hfr0 : pf_fr o t K 0 = t := if_pos rfl
    have hlay := pf_lay (σ := S) (today := nI t) hr (show o < 30000 by omega) hmon (show K < 100 by omega) hcnt.symm hok hfr 36 cnt 0 S (by omega) (by omega) h11 h12 h15 h16
    rw [hfr0, Nat.add_zero] at hlay
    have elay : kN_layOutSpans S (nI t) = lf_lay S (nI t) (36 + 1) (nI 0) (nI t) (nI (K + 1)) S := by
      unfold kN_layOutSpans
      rw [h5, nI_1]
      rfl
    rw [← elay] at hlay
    generalize hL : kN_layOutSpans S (nI t) = L at hlay
    unfold kN_reckonLevel
    rw [ham, if_pos hpos, hL, hlay.1]
    by_cases qc : cnt = 0
    · rw [if_pos (show nI cnt ≤ 0 from (pv_0lt (by omega)).2 qc)]
      refine ⟨S 0 2, hlay.2.1, Or.inr ⟨?_, rfl⟩, Or.inl rfl⟩
      unfold kM_reckon
      rw [if_neg (nI_ne0 (by omega) (by omega)), hfb, g3, if_neg (fun h => absurd ((nI_leI (by omega) (by omega)).1 h) (by omega))]
    · rw [if_neg (show ¬ nI cnt ≤ 0 from fun h => qc ((pv_0lt (by omega)).1 h))]
      obtain ⟨lv, hl1, hl2, hl3⟩ := pv_thr (rate := rate) (rule := rule) (how := how) (cnt := cnt) (amount := amount) (fr := pf_fr o t K) (by omega) (by omega)
      have hI := pt_int (how := how) ha hrt hr hok (show 0 < cnt by omega)
      rw [Nat.zero_add] at hI
      have p2 := hlay.2.1
      have e10 : L.2 0 10 = nI rate := p2.2.1.1.trans h10
      have e12 : L.2 0 12 = nI rule := p2.2.1.2.2.1.trans h12
      have e13 : L.2 0 13 = nI how := p2.2.1.2.2.2.1.trans h13
      have e3 : ∀ i, i < cnt → L.2 3 i = nI (ps_top rule (pf_fr o t K i) (pf_fr o t K (i + 1))) := fun i hi => by
        rw [hlay.2.2 i, if_pos ⟨Nat.zero_le _, hi⟩]
      have ell := pv_leastLevel e10 e12 e13 hrt hr hh (show cnt ≤ 36 by omega) (by omega) hok e3 ha hl1 hl2 hl3
      refine ⟨nI lv, ?_, Or.inl ?_, Or.inr ⟨lv, by omega, rfl⟩⟩
      · rw [ell]
        exact ⟨⟨p2.1.1, p2.1.2.1, rfl, p2.1.2.2.2⟩, p2.2⟩
      · exact pv_reckon h01 g1 g2 g3 g4 g5 hrt hr hh (show o < 30000 by omega) hmon (by omega) hok hfr hfr0 (by omega) ha (by omega) hfb hl1 (by omega) hl3
