/-! the wrappers, merged: what each call of the law's does to the desk, beside the reference's answer -/
set_option maxRecDepth 100000 in
set_option maxHeartbeats 4000000 in
theorem km_pay (l : Launch) (hlt : l.stackTraces = false) (D : va_G) (G : Nat → ClassId) (hd ha ho : Nat) (z : kZ) (σ : KS) (hrd : rd z.1 σ z.2.2.2) (hgz : kz_g z) (x1 x2 : Int32) : ∃ mc ms : Nat, mc ≤ 8 ∧ ms ≤ 321 ∧ ∀ sz : Nat, Met l yL_pay wgL_pay { frames := 8, cells := mc, slots := ms, locals := 190 } (kl_Pc D vwCl (gt G) [.ref hd, .int x1, .int x2, .ref ho] (kz_w G hd ha ho z) sz) (va_Qi (kz_po (kM_pay σ x1 x2)) (fun z' t' => kw_B D vwCl (gt G) (kz_w G hd ha ho z') (va_A (kz_w G hd ha ho z) sz) t') (va_A (kz_w G hd ha ho z) sz)) mc ms (va_A (kz_w G hd ha ho z) sz) := by
  obtain ⟨Ls, f, g, t⟩ := z
  rcases rd_pay hrd x1 x2 with ⟨i, y, hy, hx, h1, h2, h3⟩ | ⟨hx, h1, h2⟩
  · obtain ⟨done, todo, hLs, hlen⟩ := ls_split Ls i y hy
    subst hLs
    subst hlen
    have hl := hrd.2.2.2.1
    have hc : (kD_pay y.2 (nI t) x1 x2).1 = 0 ∨ (kD_pay y.2 (nI t) x1 x2).1 = 1 := by
      unfold kD_pay
      repeat' split
      all_goals first | exact Or.inl rfl | exact Or.inr rfl | exact Or.inr (Or.inl rfl) | exact Or.inr (Or.inr rfl)
    refine ⟨1, 6, by decide, by decide, fun sz => ?_⟩
    refine km_hit hgz (kD_pay y.2 (nI t) x1 x2) (kM_pay σ x1 x2) h1 (fun q => ⟨(h2 q).1, ?_⟩) h3 ?_ (fun E => (kD_pay y.2 (nI t) x1 x2).1 = ecd E) (fun _ q => q) ((kD_pay y.2 (nI t) x1 x2).1 = 0) id sz ?_
    · have q2 : rd ((done ++ y :: todo).set done.length (y.1, (kD_pay y.2 (nI t) x1 x2).2.2)) (kM_pay σ x1 x2).2 t := (h2 q).2
      rw [ls_set] at q2
      exact q2
    · rcases hc with e | e
      · exact Or.inl e
      · exact Or.inr (Or.inl e)
    · refine c_L_pay l D G hd ho f x1 x2 _ 8 _ rfl rm_D_pay 1 6 rfl rfl (by decide) (by decide) va_W _ (fun u => u) _ (fun E q => ?_) (fun sz => c_D_pay l hlt D G y.1 hd ha _ _ g _ y.2 x1 x2 sz (km_ix hgz hl hx)) sz
      rcases hc with e | e
      · exact absurd e (ecd_0 q).1
      · exact Or.inr ((ecd_0 q).2.1 e)
  · refine ⟨1, 6, by decide, by decide, fun sz => ?_⟩
    refine km_miss hgz (kM_pay σ x1 x2) h1 h2 sz ?_
    exact c_L_pay l D G hd ho f x1 x2 (kz_d G hd ha (Ls, f, g, t)) 0 _ rfl rm_D_payx 1 6 rfl rfl (by decide) (by decide) Unit _ (fun _ => []) _ (fun E q => Or.inl q) (fun sz => km_never (c_D_payx l hlt D G hd ha _ _ g _ x1 x2 sz hx)) sz
set_option maxRecDepth 100000 in
set_option maxHeartbeats 4000000 in
theorem km_part (l : Launch) (hlt : l.stackTraces = false) (D : va_G) (G : Nat → ClassId) (hd ha ho : Nat) (z : kZ) (σ : KS) (hrd : rd z.1 σ z.2.2.2) (hgz : kz_g z) (x1 x2 : Int32) : ∃ mc ms : Nat, mc ≤ 8 ∧ ms ≤ 321 ∧ ∀ sz : Nat, Met l yL_part wgL_part { frames := 8, cells := mc, slots := ms, locals := 190 } (kl_Pc D vwCl (gt G) [.ref hd, .int x1, .int x2, .ref ho] (kz_w G hd ha ho z) sz) (va_Qi (kz_po (kM_part σ x1 x2)) (fun z' t' => kw_B D vwCl (gt G) (kz_w G hd ha ho z') (va_A (kz_w G hd ha ho z) sz) t') (va_A (kz_w G hd ha ho z) sz)) mc ms (va_A (kz_w G hd ha ho z) sz) := by
  obtain ⟨Ls, f, g, t⟩ := z
  rcases rd_part hrd x1 x2 with ⟨i, y, hy, hx, h1, h2, h3⟩ | ⟨hx, h1, h2⟩
  · obtain ⟨done, todo, hLs, hlen⟩ := ls_split Ls i y hy
    subst hLs
    subst hlen
    have hl := hrd.2.2.2.1
    have hc : (kD_part y.2 (nI t) x1 x2).1 = 0 ∨ (kD_part y.2 (nI t) x1 x2).1 = 1 ∨ (kD_part y.2 (nI t) x1 x2).1 = 2 := by
      unfold kD_part
      repeat' split
      all_goals first | exact Or.inl rfl | exact Or.inr rfl | exact Or.inr (Or.inl rfl) | exact Or.inr (Or.inr rfl)
    refine ⟨1, 6, by decide, by decide, fun sz => ?_⟩
    refine km_hit hgz (kD_part y.2 (nI t) x1 x2) (kM_part σ x1 x2) h1 (fun q => ⟨(h2 q).1, ?_⟩) h3 ?_ (fun E => (kD_part y.2 (nI t) x1 x2).1 = ecd E) (fun _ q => q) ((kD_part y.2 (nI t) x1 x2).1 = 0) id sz ?_
    · have q2 : rd ((done ++ y :: todo).set done.length (y.1, (kD_part y.2 (nI t) x1 x2).2.2)) (kM_part σ x1 x2).2 t := (h2 q).2
      rw [ls_set] at q2
      exact q2
    · rcases hc with e | e | e
      · exact Or.inl e
      · exact Or.inr (Or.inl e)
      · exact Or.inr (Or.inr (Or.inl e))
    · refine c_L_part l D G hd ho f x1 x2 _ 8 _ rfl rm_D_part 1 6 rfl rfl (by decide) (by decide) va_W _ (fun u => u) _ (fun E q => ?_) (fun sz => c_D_part l hlt D G y.1 hd ha _ _ g _ y.2 x1 x2 sz (km_ix hgz hl hx)) sz
      rcases hc with e | e | e
      · exact absurd e (ecd_0 q).1
      · exact Or.inr (Or.inl ((ecd_0 q).2.1 e))
      · exact Or.inr (Or.inr ((ecd_0 q).2.2.1 e))
  · refine ⟨1, 6, by decide, by decide, fun sz => ?_⟩
    refine km_miss hgz (kM_part σ x1 x2) h1 h2 sz ?_
    exact c_L_part l D G hd ho f x1 x2 (kz_d G hd ha (Ls, f, g, t)) 0 _ rfl rm_D_partx 1 6 rfl rfl (by decide) (by decide) Unit _ (fun _ => []) _ (fun E q => Or.inl q) (fun sz => km_never (c_D_partx l hlt D G hd ha _ _ g _ x1 x2 sz hx)) sz
set_option maxRecDepth 100000 in
set_option maxHeartbeats 4000000 in
theorem km_due (l : Launch) (hlt : l.stackTraces = false) (D : va_G) (G : Nat → ClassId) (hd ha ho : Nat) (z : kZ) (σ : KS) (hrd : rd z.1 σ z.2.2.2) (hgz : kz_g z) (x1 x2 : Int32) : ∃ mc ms : Nat, mc ≤ 8 ∧ ms ≤ 321 ∧ ∀ sz : Nat, Met l yL_due wgL_due { frames := 8, cells := mc, slots := ms, locals := 190 } (kl_Pc D vwCl (gt G) [.ref hd, .int x1, .int x2, .ref ho] (kz_w G hd ha ho z) sz) (va_Qi (kz_po (kM_due σ x1 x2)) (fun z' t' => kw_B D vwCl (gt G) (kz_w G hd ha ho z') (va_A (kz_w G hd ha ho z) sz) t') (va_A (kz_w G hd ha ho z) sz)) mc ms (va_A (kz_w G hd ha ho z) sz) := by
  obtain ⟨Ls, f, g, t⟩ := z
  rcases rd_due hrd x1 x2 with ⟨i, y, hy, hx, h1, h2, h3⟩ | ⟨hx, h1, h2⟩
  · obtain ⟨done, todo, hLs, hlen⟩ := ls_split Ls i y hy
    subst hLs
    subst hlen
    have hl := hrd.2.2.2.1
    have hc : (kD_due y.2 (nI t) x1 x2).1 = 0 ∨ (kD_due y.2 (nI t) x1 x2).1 = 1 := by
      unfold kD_due
      repeat' split
      all_goals first | exact Or.inl rfl | exact Or.inr rfl | exact Or.inr (Or.inl rfl) | exact Or.inr (Or.inr rfl)
    refine ⟨1, 6, by decide, by decide, fun sz => ?_⟩
    refine km_hit hgz (kD_due y.2 (nI t) x1 x2) (kM_due σ x1 x2) h1 (fun q => ⟨(h2 q).1, ?_⟩) h3 ?_ (fun E => (kD_due y.2 (nI t) x1 x2).1 = ecd E) (fun _ q => q) ((kD_due y.2 (nI t) x1 x2).1 = 0) id sz ?_
    · have q2 : rd ((done ++ y :: todo).set done.length (y.1, (kD_due y.2 (nI t) x1 x2).2.2)) (kM_due σ x1 x2).2 t := (h2 q).2
      rw [ls_set] at q2
      exact q2
    · rcases hc with e | e
      · exact Or.inl e
      · exact Or.inr (Or.inl e)
    · refine c_L_due l D G hd ho f x1 x2 _ 8 _ rfl rm_D_due 1 6 rfl rfl (by decide) (by decide) va_W _ (fun u => u) _ (fun E q => ?_) (fun sz => c_D_due l hlt D G y.1 hd ha _ _ g _ y.2 x1 x2 sz (km_ix hgz hl hx)) sz
      rcases hc with e | e
      · exact absurd e (ecd_0 q).1
      · exact Or.inr ((ecd_0 q).2.1 e)
  · refine ⟨1, 6, by decide, by decide, fun sz => ?_⟩
    refine km_miss hgz (kM_due σ x1 x2) h1 h2 sz ?_
    exact c_L_due l D G hd ho f x1 x2 (kz_d G hd ha (Ls, f, g, t)) 0 _ rfl rm_D_duex 1 6 rfl rfl (by decide) (by decide) Unit _ (fun _ => []) _ (fun E q => Or.inl q) (fun sz => km_never (c_D_duex l hlt D G hd ha _ _ g _ x1 x2 sz hx)) sz
set_option maxRecDepth 100000 in
set_option maxHeartbeats 4000000 in
theorem km_owed (l : Launch) (hlt : l.stackTraces = false) (D : va_G) (G : Nat → ClassId) (hd ha ho : Nat) (z : kZ) (σ : KS) (hrd : rd z.1 σ z.2.2.2) (hgz : kz_g z) (x1 x2 : Int32) : ∃ mc ms : Nat, mc ≤ 8 ∧ ms ≤ 321 ∧ ∀ sz : Nat, Met l yL_owed wgL_owed { frames := 8, cells := mc, slots := ms, locals := 190 } (kl_Pc D vwCl (gt G) [.ref hd, .int x1, .int x2, .ref ho] (kz_w G hd ha ho z) sz) (va_Qi (kz_po (kM_owed σ x1 x2)) (fun z' t' => kw_B D vwCl (gt G) (kz_w G hd ha ho z') (va_A (kz_w G hd ha ho z) sz) t') (va_A (kz_w G hd ha ho z) sz)) mc ms (va_A (kz_w G hd ha ho z) sz) := by
  obtain ⟨Ls, f, g, t⟩ := z
  rcases rd_owed hrd x1 x2 with ⟨i, y, hy, hx, h1, h2, h3⟩ | ⟨hx, h1, h2⟩
  · obtain ⟨done, todo, hLs, hlen⟩ := ls_split Ls i y hy
    subst hLs
    subst hlen
    have hl := hrd.2.2.2.1
    have hc : (kD_owed y.2 (nI t) x1 x2).1 = 0 ∨ (kD_owed y.2 (nI t) x1 x2).1 = 1 := by
      unfold kD_owed
      repeat' split
      all_goals first | exact Or.inl rfl | exact Or.inr rfl | exact Or.inr (Or.inl rfl) | exact Or.inr (Or.inr rfl)
    refine ⟨1, 6, by decide, by decide, fun sz => ?_⟩
    refine km_hit hgz (kD_owed y.2 (nI t) x1 x2) (kM_owed σ x1 x2) h1 (fun q => ⟨(h2 q).1, ?_⟩) h3 ?_ (fun E => (kD_owed y.2 (nI t) x1 x2).1 = ecd E) (fun _ q => q) ((kD_owed y.2 (nI t) x1 x2).1 = 0) id sz ?_
    · have q2 : rd ((done ++ y :: todo).set done.length (y.1, (kD_owed y.2 (nI t) x1 x2).2.2)) (kM_owed σ x1 x2).2 t := (h2 q).2
      rw [ls_set] at q2
      exact q2
    · rcases hc with e | e
      · exact Or.inl e
      · exact Or.inr (Or.inl e)
    · refine c_L_owed l D G hd ho f x1 x2 _ 8 _ rfl rm_D_owed 1 6 rfl rfl (by decide) (by decide) va_W _ (fun u => u) _ (fun E q => ?_) (fun sz => c_D_owed l hlt D G y.1 hd ha _ _ g _ y.2 x1 x2 sz (km_ix hgz hl hx)) sz
      rcases hc with e | e
      · exact absurd e (ecd_0 q).1
      · exact Or.inr ((ecd_0 q).2.1 e)
  · refine ⟨1, 6, by decide, by decide, fun sz => ?_⟩
    refine km_miss hgz (kM_owed σ x1 x2) h1 h2 sz ?_
    exact c_L_owed l D G hd ho f x1 x2 (kz_d G hd ha (Ls, f, g, t)) 0 _ rfl rm_D_owedx 1 6 rfl rfl (by decide) (by decide) Unit _ (fun _ => []) _ (fun E q => Or.inl q) (fun sz => km_never (c_D_owedx l hlt D G hd ha _ _ g _ x1 x2 sz hx)) sz
set_option maxRecDepth 100000 in
set_option maxHeartbeats 4000000 in
theorem km_bill (l : Launch) (hlt : l.stackTraces = false) (D : va_G) (G : Nat → ClassId) (hd ha ho : Nat) (z : kZ) (σ : KS) (hrd : rd z.1 σ z.2.2.2) (hgz : kz_g z) (x1 x2 x3 : Int32) : ∃ mc ms : Nat, mc ≤ 8 ∧ ms ≤ 321 ∧ ∀ sz : Nat, Met l yL_bill wgL_bill { frames := 8, cells := mc, slots := ms, locals := 190 } (kl_Pc D vwCl (gt G) [.ref hd, .int x1, .int x2, .int x3, .ref ho] (kz_w G hd ha ho z) sz) (va_Qi (kz_po (kM_bill σ x1 x2 x3)) (fun z' t' => kw_B D vwCl (gt G) (kz_w G hd ha ho z') (va_A (kz_w G hd ha ho z) sz) t') (va_A (kz_w G hd ha ho z) sz)) mc ms (va_A (kz_w G hd ha ho z) sz) := by
  obtain ⟨Ls, f, g, t⟩ := z
  rcases rd_bill hrd x1 x2 x3 with ⟨i, y, hy, hx, h1, h2, h3⟩ | ⟨hx, h1, h2⟩
  · obtain ⟨done, todo, hLs, hlen⟩ := ls_split Ls i y hy
    subst hLs
    subst hlen
    have hl := hrd.2.2.2.1
    have hc : (kD_bill y.2 (nI t) x1 x2 x3).1 = 0 ∨ (kD_bill y.2 (nI t) x1 x2 x3).1 = 1 ∨ (kD_bill y.2 (nI t) x1 x2 x3).1 = 4 := by
      unfold kD_bill
      repeat' split
      all_goals first | exact Or.inl rfl | exact Or.inr rfl | exact Or.inr (Or.inl rfl) | exact Or.inr (Or.inr rfl)
    refine ⟨1, 6, by decide, by decide, fun sz => ?_⟩
    refine km_hit hgz (kD_bill y.2 (nI t) x1 x2 x3) (kM_bill σ x1 x2 x3) h1 (fun q => ⟨(h2 q).1, ?_⟩) h3 ?_ (fun E => (kD_bill y.2 (nI t) x1 x2 x3).1 = ecd E) (fun _ q => q) ((kD_bill y.2 (nI t) x1 x2 x3).1 = 0) id sz ?_
    · have q2 : rd ((done ++ y :: todo).set done.length (y.1, (kD_bill y.2 (nI t) x1 x2 x3).2.2)) (kM_bill σ x1 x2 x3).2 t := (h2 q).2
      rw [ls_set] at q2
      exact q2
    · rcases hc with e | e | e
      · exact Or.inl e
      · exact Or.inr (Or.inl e)
      · exact Or.inr (Or.inr (Or.inr e))
    · refine c_L_bill l D G hd ho f x1 x2 x3 _ 8 _ rfl rm_D_bill 1 6 rfl rfl (by decide) (by decide) va_W _ (fun u => u) _ (fun E q => ?_) (fun sz => c_D_bill l hlt D G y.1 hd ha _ _ g _ y.2 x1 x2 x3 sz (km_ix hgz hl hx) (rl_pk (hrd.2.2.2.2.1 done.length y hy)).choose (rl_pk (hrd.2.2.2.2.1 done.length y hy)).choose_spec.2.1 (Nat.le_trans (rl_pk (hrd.2.2.2.2.1 done.length y hy)).choose_spec.1 (by decide))) sz
      rcases hc with e | e | e
      · exact absurd e (ecd_0 q).1
      · exact Or.inr (Or.inl ((ecd_0 q).2.1 e))
      · exact Or.inr (Or.inr ((ecd_0 q).2.2.2.2 e))
  · refine ⟨1, 6, by decide, by decide, fun sz => ?_⟩
    refine km_miss hgz (kM_bill σ x1 x2 x3) h1 h2 sz ?_
    exact c_L_bill l D G hd ho f x1 x2 x3 (kz_d G hd ha (Ls, f, g, t)) 0 _ rfl rm_D_billx 1 6 rfl rfl (by decide) (by decide) Unit _ (fun _ => []) _ (fun E q => Or.inl q) (fun sz => km_never (c_D_billx l hlt D G hd ha _ _ g _ x1 x2 x3 sz hx)) sz
set_option maxRecDepth 100000 in
set_option maxHeartbeats 4000000 in
theorem km_principal (l : Launch) (hlt : l.stackTraces = false) (D : va_G) (G : Nat → ClassId) (hd ha ho : Nat) (z : kZ) (σ : KS) (hrd : rd z.1 σ z.2.2.2) (hgz : kz_g z) (x1 : Int32) : ∃ mc ms : Nat, mc ≤ 8 ∧ ms ≤ 321 ∧ ∀ sz : Nat, Met l yL_principal wgL_principal { frames := 8, cells := mc, slots := ms, locals := 190 } (kl_Pc D vwCl (gt G) [.ref hd, .int x1, .ref ho] (kz_w G hd ha ho z) sz) (va_Qi (kz_po (kM_principal σ x1)) (fun z' t' => kw_B D vwCl (gt G) (kz_w G hd ha ho z') (va_A (kz_w G hd ha ho z) sz) t') (va_A (kz_w G hd ha ho z) sz)) mc ms (va_A (kz_w G hd ha ho z) sz) := by
  obtain ⟨Ls, f, g, t⟩ := z
  rcases rd_principal hrd x1 with ⟨i, y, hy, hx, h1, h2, h3⟩ | ⟨hx, h1, h2⟩
  · obtain ⟨done, todo, hLs, hlen⟩ := ls_split Ls i y hy
    subst hLs
    subst hlen
    have hl := hrd.2.2.2.1
    refine ⟨0, 0, by decide, by decide, fun sz => ?_⟩
    refine km_hit hgz (0, kD_principal y.2 (nI t) x1, y.2) (kM_principal σ x1) h1 (fun q => ⟨(h2 q).1, ?_⟩) h3 (Or.inl rfl) (fun _ => False) (fun _ q => q.elim) True (fun _ => rfl) sz ?_
    · have q2 : rd ((done ++ y :: todo).set done.length (y.1, y.2)) (kM_principal σ x1).2 t := (h2 q).2
      rw [ls_set] at q2
      exact q2
    · exact c_L_principal l D G hd ho f x1 _ 8 _ rfl rm_D_principal 0 0 rfl rfl (by decide) (by decide) va_W _ (fun u => u) _ (fun E q => q.elim) (fun sz => kt_lift (c_D_principal l D G y.1 hd ha _ _ g _ y.2 x1 sz (km_ix hgz hl hx))) sz
  · refine ⟨1, 6, by decide, by decide, fun sz => ?_⟩
    refine km_miss hgz (kM_principal σ x1) h1 h2 sz ?_
    exact c_L_principal l D G hd ho f x1 (kz_d G hd ha (Ls, f, g, t)) 0 _ rfl rm_D_principalx 1 6 rfl rfl (by decide) (by decide) Unit _ (fun _ => []) _ (fun E q => q) (fun sz => km_never (c_D_principalx l hlt D G hd ha _ _ g _ x1 sz hx)) sz
set_option maxRecDepth 100000 in
set_option maxHeartbeats 4000000 in
theorem km_level (l : Launch) (hlt : l.stackTraces = false) (D : va_G) (G : Nat → ClassId) (hd ha ho : Nat) (z : kZ) (σ : KS) (hrd : rd z.1 σ z.2.2.2) (hgz : kz_g z) (x1 : Int32) : ∃ mc ms : Nat, mc ≤ 8 ∧ ms ≤ 321 ∧ ∀ sz : Nat, Met l yL_level wgL_level { frames := 8, cells := mc, slots := ms, locals := 190 } (kl_Pc D vwCl (gt G) [.ref hd, .int x1, .ref ho] (kz_w G hd ha ho z) sz) (va_Qi (kz_po (kM_level σ x1)) (fun z' t' => kw_B D vwCl (gt G) (kz_w G hd ha ho z') (va_A (kz_w G hd ha ho z) sz) t') (va_A (kz_w G hd ha ho z) sz)) mc ms (va_A (kz_w G hd ha ho z) sz) := by
  obtain ⟨Ls, f, g, t⟩ := z
  rcases rd_level hrd x1 with ⟨i, y, hy, hx, h1, h2, h3⟩ | ⟨hx, h1, h2⟩
  · obtain ⟨done, todo, hLs, hlen⟩ := ls_split Ls i y hy
    subst hLs
    subst hlen
    have hl := hrd.2.2.2.1
    refine ⟨0, 0, by decide, by decide, fun sz => ?_⟩
    refine km_hit hgz (0, kD_level y.2 (nI t) x1, y.2) (kM_level σ x1) h1 (fun q => ⟨(h2 q).1, ?_⟩) h3 (Or.inl rfl) (fun _ => False) (fun _ q => q.elim) True (fun _ => rfl) sz ?_
    · have q2 : rd ((done ++ y :: todo).set done.length (y.1, y.2)) (kM_level σ x1).2 t := (h2 q).2
      rw [ls_set] at q2
      exact q2
    · exact c_L_level l D G hd ho f x1 _ 8 _ rfl rm_D_level 0 0 rfl rfl (by decide) (by decide) va_W _ (fun u => u) _ (fun E q => q.elim) (fun sz => kt_lift (c_D_level l D G y.1 hd ha _ _ g _ y.2 x1 sz (km_ix hgz hl hx))) sz
  · refine ⟨1, 6, by decide, by decide, fun sz => ?_⟩
    refine km_miss hgz (kM_level σ x1) h1 h2 sz ?_
    exact c_L_level l D G hd ho f x1 (kz_d G hd ha (Ls, f, g, t)) 0 _ rfl rm_D_levelx 1 6 rfl rfl (by decide) (by decide) Unit _ (fun _ => []) _ (fun E q => q) (fun sz => km_never (c_D_levelx l hlt D G hd ha _ _ g _ x1 sz hx)) sz
set_option maxRecDepth 100000 in
set_option maxHeartbeats 4000000 in
theorem km_accrued (l : Launch) (hlt : l.stackTraces = false) (D : va_G) (G : Nat → ClassId) (hd ha ho : Nat) (z : kZ) (σ : KS) (hrd : rd z.1 σ z.2.2.2) (hgz : kz_g z) (x1 : Int32) : ∃ mc ms : Nat, mc ≤ 8 ∧ ms ≤ 321 ∧ ∀ sz : Nat, Met l yL_accrued wgL_accrued { frames := 8, cells := mc, slots := ms, locals := 190 } (kl_Pc D vwCl (gt G) [.ref hd, .int x1, .ref ho] (kz_w G hd ha ho z) sz) (va_Qi (kz_po (kM_accrued σ x1)) (fun z' t' => kw_B D vwCl (gt G) (kz_w G hd ha ho z') (va_A (kz_w G hd ha ho z) sz) t') (va_A (kz_w G hd ha ho z) sz)) mc ms (va_A (kz_w G hd ha ho z) sz) := by
  obtain ⟨Ls, f, g, t⟩ := z
  rcases rd_accrued hrd x1 with ⟨i, y, hy, hx, h1, h2, h3⟩ | ⟨hx, h1, h2⟩
  · obtain ⟨done, todo, hLs, hlen⟩ := ls_split Ls i y hy
    subst hLs
    subst hlen
    have hl := hrd.2.2.2.1
    refine ⟨0, 0, by decide, by decide, fun sz => ?_⟩
    refine km_hit hgz (0, kD_accrued y.2 (nI t) x1, y.2) (kM_accrued σ x1) h1 (fun q => ⟨(h2 q).1, ?_⟩) h3 (Or.inl rfl) (fun _ => False) (fun _ q => q.elim) True (fun _ => rfl) sz ?_
    · have q2 : rd ((done ++ y :: todo).set done.length (y.1, y.2)) (kM_accrued σ x1).2 t := (h2 q).2
      rw [ls_set] at q2
      exact q2
    · exact c_L_accrued l D G hd ho f x1 _ 8 _ rfl rm_D_accrued 0 0 rfl rfl (by decide) (by decide) va_W _ (fun u => u) _ (fun E q => q.elim) (fun sz => kt_lift (c_D_accrued l D G y.1 hd ha _ _ g _ y.2 x1 sz (km_ix hgz hl hx))) sz
  · refine ⟨1, 6, by decide, by decide, fun sz => ?_⟩
    refine km_miss hgz (kM_accrued σ x1) h1 h2 sz ?_
    exact c_L_accrued l D G hd ho f x1 (kz_d G hd ha (Ls, f, g, t)) 0 _ rfl rm_D_accruedx 1 6 rfl rfl (by decide) (by decide) Unit _ (fun _ => []) _ (fun E q => q) (fun sz => km_never (c_D_accruedx l hlt D G hd ha _ _ g _ x1 sz hx)) sz
set_option maxRecDepth 100000 in
set_option maxHeartbeats 4000000 in
theorem km_escrow (l : Launch) (hlt : l.stackTraces = false) (D : va_G) (G : Nat → ClassId) (hd ha ho : Nat) (z : kZ) (σ : KS) (hrd : rd z.1 σ z.2.2.2) (hgz : kz_g z) (x1 : Int32) : ∃ mc ms : Nat, mc ≤ 8 ∧ ms ≤ 321 ∧ ∀ sz : Nat, Met l yL_escrow wgL_escrow { frames := 8, cells := mc, slots := ms, locals := 190 } (kl_Pc D vwCl (gt G) [.ref hd, .int x1, .ref ho] (kz_w G hd ha ho z) sz) (va_Qi (kz_po (kM_escrow σ x1)) (fun z' t' => kw_B D vwCl (gt G) (kz_w G hd ha ho z') (va_A (kz_w G hd ha ho z) sz) t') (va_A (kz_w G hd ha ho z) sz)) mc ms (va_A (kz_w G hd ha ho z) sz) := by
  obtain ⟨Ls, f, g, t⟩ := z
  rcases rd_escrow hrd x1 with ⟨i, y, hy, hx, h1, h2, h3⟩ | ⟨hx, h1, h2⟩
  · obtain ⟨done, todo, hLs, hlen⟩ := ls_split Ls i y hy
    subst hLs
    subst hlen
    have hl := hrd.2.2.2.1
    refine ⟨0, 0, by decide, by decide, fun sz => ?_⟩
    refine km_hit hgz (0, kD_escrow y.2 (nI t) x1, y.2) (kM_escrow σ x1) h1 (fun q => ⟨(h2 q).1, ?_⟩) h3 (Or.inl rfl) (fun _ => False) (fun _ q => q.elim) True (fun _ => rfl) sz ?_
    · have q2 : rd ((done ++ y :: todo).set done.length (y.1, y.2)) (kM_escrow σ x1).2 t := (h2 q).2
      rw [ls_set] at q2
      exact q2
    · exact c_L_escrow l D G hd ho f x1 _ 8 _ rfl rm_D_escrow 0 0 rfl rfl (by decide) (by decide) va_W _ (fun u => u) _ (fun E q => q.elim) (fun sz => kt_lift (c_D_escrow l D G y.1 hd ha _ _ g _ y.2 x1 sz (km_ix hgz hl hx))) sz
  · refine ⟨1, 6, by decide, by decide, fun sz => ?_⟩
    refine km_miss hgz (kM_escrow σ x1) h1 h2 sz ?_
    exact c_L_escrow l D G hd ho f x1 (kz_d G hd ha (Ls, f, g, t)) 0 _ rfl rm_D_escrowx 1 6 rfl rfl (by decide) (by decide) Unit _ (fun _ => []) _ (fun E q => q) (fun sz => km_never (c_D_escrowx l hlt D G hd ha _ _ g _ x1 sz hx)) sz
set_option maxRecDepth 100000 in
set_option maxHeartbeats 4000000 in
theorem km_deposit (l : Launch) (hlt : l.stackTraces = false) (D : va_G) (G : Nat → ClassId) (hd ha ho : Nat) (z : kZ) (σ : KS) (hrd : rd z.1 σ z.2.2.2) (hgz : kz_g z) (x1 : Int32) : ∃ mc ms : Nat, mc ≤ 8 ∧ ms ≤ 321 ∧ ∀ sz : Nat, Met l yL_deposit wgL_deposit { frames := 8, cells := mc, slots := ms, locals := 190 } (kl_Pc D vwCl (gt G) [.ref hd, .int x1, .ref ho] (kz_w G hd ha ho z) sz) (va_Qi (kz_po (kM_deposit σ x1)) (fun z' t' => kw_B D vwCl (gt G) (kz_w G hd ha ho z') (va_A (kz_w G hd ha ho z) sz) t') (va_A (kz_w G hd ha ho z) sz)) mc ms (va_A (kz_w G hd ha ho z) sz) := by
  obtain ⟨Ls, f, g, t⟩ := z
  rcases rd_deposit hrd x1 with ⟨i, y, hy, hx, h1, h2, h3⟩ | ⟨hx, h1, h2⟩
  · obtain ⟨done, todo, hLs, hlen⟩ := ls_split Ls i y hy
    subst hLs
    subst hlen
    have hl := hrd.2.2.2.1
    refine ⟨0, 0, by decide, by decide, fun sz => ?_⟩
    refine km_hit hgz (0, kD_deposit y.2 (nI t) x1, y.2) (kM_deposit σ x1) h1 (fun q => ⟨(h2 q).1, ?_⟩) h3 (Or.inl rfl) (fun _ => False) (fun _ q => q.elim) True (fun _ => rfl) sz ?_
    · have q2 : rd ((done ++ y :: todo).set done.length (y.1, y.2)) (kM_deposit σ x1).2 t := (h2 q).2
      rw [ls_set] at q2
      exact q2
    · exact c_L_deposit l D G hd ho f x1 _ 8 _ rfl rm_D_deposit 0 0 rfl rfl (by decide) (by decide) va_W _ (fun u => u) _ (fun E q => q.elim) (fun sz => kt_lift (c_D_deposit l D G y.1 hd ha _ _ g _ y.2 x1 sz (km_ix hgz hl hx))) sz
  · refine ⟨1, 6, by decide, by decide, fun sz => ?_⟩
    refine km_miss hgz (kM_deposit σ x1) h1 h2 sz ?_
    exact c_L_deposit l D G hd ho f x1 (kz_d G hd ha (Ls, f, g, t)) 0 _ rfl rm_D_depositx 1 6 rfl rfl (by decide) (by decide) Unit _ (fun _ => []) _ (fun E q => q) (fun sz => km_never (c_D_depositx l hlt D G hd ha _ _ g _ x1 sz hx)) sz
set_option maxRecDepth 100000 in
set_option maxHeartbeats 4000000 in
theorem km_bills (l : Launch) (hlt : l.stackTraces = false) (D : va_G) (G : Nat → ClassId) (hd ha ho : Nat) (z : kZ) (σ : KS) (hrd : rd z.1 σ z.2.2.2) (hgz : kz_g z) (x1 : Int32) : ∃ mc ms : Nat, mc ≤ 8 ∧ ms ≤ 321 ∧ ∀ sz : Nat, Met l yL_bills wgL_bills { frames := 8, cells := mc, slots := ms, locals := 190 } (kl_Pc D vwCl (gt G) [.ref hd, .int x1, .ref ho] (kz_w G hd ha ho z) sz) (va_Qi (kz_po (kM_bills σ x1)) (fun z' t' => kw_B D vwCl (gt G) (kz_w G hd ha ho z') (va_A (kz_w G hd ha ho z) sz) t') (va_A (kz_w G hd ha ho z) sz)) mc ms (va_A (kz_w G hd ha ho z) sz) := by
  obtain ⟨Ls, f, g, t⟩ := z
  rcases rd_bills hrd x1 with ⟨i, y, hy, hx, h1, h2, h3⟩ | ⟨hx, h1, h2⟩
  · obtain ⟨done, todo, hLs, hlen⟩ := ls_split Ls i y hy
    subst hLs
    subst hlen
    have hl := hrd.2.2.2.1
    refine ⟨0, 0, by decide, by decide, fun sz => ?_⟩
    refine km_hit hgz (0, kD_bills y.2 (nI t) x1, y.2) (kM_bills σ x1) h1 (fun q => ⟨(h2 q).1, ?_⟩) h3 (Or.inl rfl) (fun _ => False) (fun _ q => q.elim) True (fun _ => rfl) sz ?_
    · have q2 : rd ((done ++ y :: todo).set done.length (y.1, y.2)) (kM_bills σ x1).2 t := (h2 q).2
      rw [ls_set] at q2
      exact q2
    · exact c_L_bills l D G hd ho f x1 _ 8 _ rfl rm_D_bills 0 0 rfl rfl (by decide) (by decide) va_W _ (fun u => u) _ (fun E q => q.elim) (fun sz => kt_lift (c_D_bills l D G y.1 hd ha _ _ g _ y.2 x1 sz (km_ix hgz hl hx))) sz
  · refine ⟨1, 6, by decide, by decide, fun sz => ?_⟩
    refine km_miss hgz (kM_bills σ x1) h1 h2 sz ?_
    exact c_L_bills l D G hd ho f x1 (kz_d G hd ha (Ls, f, g, t)) 0 _ rfl rm_D_billsx 1 6 rfl rfl (by decide) (by decide) Unit _ (fun _ => []) _ (fun E q => q) (fun sz => km_never (c_D_billsx l hlt D G hd ha _ _ g _ x1 sz hx)) sz
set_option maxRecDepth 100000 in
set_option maxHeartbeats 4000000 in
theorem km_interest (l : Launch) (hlt : l.stackTraces = false) (D : va_G) (G : Nat → ClassId) (hd ha ho : Nat) (z : kZ) (σ : KS) (hrd : rd z.1 σ z.2.2.2) (hgz : kz_g z) (x1 x2 x3 x4 x5 x6 : Int32) : ∃ mc ms : Nat, mc ≤ 8 ∧ ms ≤ 321 ∧ ∀ sz : Nat, Met l yL_interest wgL_interest { frames := 8, cells := mc, slots := ms, locals := 190 } (kl_Pc D vwCl (gt G) [.ref hd, .int x1, .int x2, .int x3, .int x4, .int x5, .int x6, .ref ho] (kz_w G hd ha ho z) sz) (va_Qi (kz_po (kM_interest σ x1 x2 x3 x4 x5 x6)) (fun z' t' => kw_B D vwCl (gt G) (kz_w G hd ha ho z') (va_A (kz_w G hd ha ho z) sz) t') (va_A (kz_w G hd ha ho z) sz)) mc ms (va_A (kz_w G hd ha ho z) sz) := by
  obtain ⟨Ls, f, g, t⟩ := z
  obtain ⟨h1, h2, h3⟩ := rd_interest hrd x1 x2 x3 x4 x5 x6
  have hc : (kD_interest km0 (nI t) x1 x2 x3 x4 x5 x6).1 = 0 ∨ (kD_interest km0 (nI t) x1 x2 x3 x4 x5 x6).1 = 1 := by
    unfold kD_interest
    repeat' split
    all_goals first | exact Or.inl rfl | exact Or.inr rfl
  refine ⟨1, 6, by decide, by decide, fun sz => ?_⟩
  have hL := c_L_interest l D G hd ho f x1 x2 x3 x4 x5 x6 (kz_d G hd ha (Ls, f, g, t)) 0 _ rfl rm_D_interest 1 6 rfl rfl (by decide) (by decide) va_W _ (fun u => u) _ (fun E q => (by rcases hc with e | e; exact absurd e (ecd_0 q).1; exact (ecd_0 q).2.1 e)) (fun sz => c_D_interest l hlt D G hd ha _ _ g _ km0 x1 x2 x3 x4 x5 x6 sz) sz
  refine kl_conv (kz_po (kM_interest σ x1 x2 x3 x4 x5 x6)) (kz_w G hd ha ho) (List.Perm.refl _) (fun k q hq => ?_) hL
  match q, hq with
  | none, ⟨E, hE, hk⟩ =>
    have e1 : (kD_interest km0 (nI t) x1 x2 x3 x4 x5 x6).1 = 1 := hc.resolve_left (ecd_0 hE).1
    have hk1 : k = 1 := by
      rw [hk, (ecd_0 hE).2.1 e1]
      decide +kernel
    exact ⟨(Ls, f, g, t), ⟨h1.trans (e1.trans hk1.symm), fun k0 => absurd (hk1.symm.trans k0) (by decide), h3, hgz⟩, List.Perm.refl _⟩
  | some (v, u), ⟨hk, hPP, hv, hu⟩ =>
    have hu' : u = kz_d G hd ha (Ls, f, g, t) := hu
    refine ⟨(Ls, vp_updL f 0 v.toInt64, g, t), ⟨h1.trans (hPP.trans hk.symm), fun _ => ?_, h3, hgz⟩, ?_⟩
    · show vp_updL f 0 v.toInt64 0 = _
      rw [vp_updL_0, ← h2 hPP]
      exact congrArg Int32.toInt64 hv
    · show (kz_w G hd ha ho (Ls, vp_updL f 0 v.toInt64, g, t)).Perm (ocl G ho (vp_updL f 0 v.toInt64) ++ u)
      rw [hu']
      exact List.Perm.refl _
set_option maxRecDepth 100000 in
set_option maxHeartbeats 4000000 in
theorem km_advance (l : Launch) (hlt : l.stackTraces = false) (D : va_G) (G : Nat → ClassId) (hd ha ho : Nat) (z : kZ) (σ : KS) (hrd : rd z.1 σ z.2.2.2) (hgz : kz_g z) (x1 : Int32) : ∃ mc ms : Nat, mc ≤ 8 ∧ ms ≤ 321 ∧ ∀ sz : Nat, Met l yL_advance wgL_advance { frames := 8, cells := mc, slots := ms, locals := 190 } (kl_Pc D vwCl (gt G) [.ref hd, .int x1, .ref ho] (kz_w G hd ha ho z) sz) (va_Qi (kz_po (kM_advance σ x1)) (fun z' t' => kw_B D vwCl (gt G) (kz_w G hd ha ho z') (va_A (kz_w G hd ha ho z) sz) t') (va_A (kz_w G hd ha ho z) sz)) mc ms (va_A (kz_w G hd ha ho z) sz) := by
  obtain ⟨Ls, f, g, t⟩ := z
  obtain ⟨h1, h2, h3, h4⟩ := rd_advance hrd x1
  have hl := hrd.2.2.2.1
  have hc : (kD_advance (nI t) x1 Ls).1 = 0 ∨ (kD_advance (nI t) x1 Ls).1 = 1 ∨ (kD_advance (nI t) x1 Ls).1 = 2 := by
    unfold kD_advance
    repeat' split
    all_goals first | exact Or.inl rfl | exact Or.inr (Or.inl rfl) | exact Or.inr (Or.inr rfl)
  refine ⟨1, 6, by decide, by decide, fun sz => ?_⟩
  have hL := c_L_advance l D G hd ho f x1 (kz_d G hd ha (Ls, f, g, t)) 0 _ rfl rm_D_advance 1 6 rfl rfl (by decide) (by decide) va_W _ (fun u => u) _ (fun E q => (by rcases hc with e | e | e; exact absurd e (ecd_0 q).1; exact Or.inl ((ecd_0 q).2.1 e); exact Or.inr ((ecd_0 q).2.2.1 e))) (fun sz => c_D_advance l hlt D G hd ha _ _ g Ls x1 sz rfl hl hgz h4) sz
  refine kl_conv (kz_po (kM_advance σ x1)) (kz_w G hd ha ho) (List.Perm.refl _) (fun k q hq => ?_) hL
  match q, hq with
  | none, ⟨E, hE, hk⟩ =>
    have hk1 : k = (kD_advance (nI t) x1 Ls).1 ∧ ¬ k = 0 := by
      rcases hc with e | e | e
      · exact absurd e (ecd_0 hE).1
      · have hk2 : k = 1 := by
          rw [hk, (ecd_0 hE).2.1 e]
          decide +kernel
        exact ⟨hk2.trans e.symm, by rw [hk2]; decide⟩
      · have hk2 : k = 2 := by
          rw [hk, (ecd_0 hE).2.2.1 e]
          decide +kernel
        exact ⟨hk2.trans e.symm, by rw [hk2]; decide⟩
    exact ⟨(Ls, f, g, t), ⟨h1.trans hk1.1.symm, fun k0 => absurd k0 hk1.2, h3 (ecd_0 hE).1, hgz⟩, List.Perm.refl _⟩
  | some (v, u), ⟨hk, hPP, hv, hu⟩ =>
    obtain ⟨g1, t', g2, g3, g4⟩ := h2 hPP
    have hlen : (kD_advance (nI t) x1 Ls).2.2.2.length = Ls.length := by
      have := congrArg List.length g4
      rw [List.length_map, List.length_map] at this
      exact this
    refine ⟨((kD_advance (nI t) x1 Ls).2.2.2, vp_updL f 0 v.toInt64, g, t'), ⟨h1.trans (hPP.trans hk.symm), fun _ => ?_, g3, fun i a hi => hgz i a (by rw [← g4]; exact hi)⟩, ?_⟩
    · show vp_updL f 0 v.toInt64 0 = _
      rw [vp_updL_0, ← g1]
      exact congrArg Int32.toInt64 hv
    · have hu' : u = dtl G hd ha (nI Ls.length) (kD_advance (nI t) x1 Ls).2.2.1 g (lfm G (kD_advance (nI t) x1 Ls).2.2.2) := hu
      show (kz_w G hd ha ho ((kD_advance (nI t) x1 Ls).2.2.2, vp_updL f 0 v.toInt64, g, t')).Perm (ocl G ho (vp_updL f 0 v.toInt64) ++ u)
      rw [hu', g2]
      unfold kz_w kz_d
      rw [hlen]
set_option maxRecDepth 100000 in
set_option maxHeartbeats 4000000 in
theorem km_open (l : Launch) (hlt : l.stackTraces = false) (D : va_G) (G : Nat → ClassId) (hd ha ho : Nat) (z : kZ) (σ : KS) (hrd : rd z.1 σ z.2.2.2) (hgz : kz_g z) (x1 x2 x3 x4 x5 x6 : Int32) (hst : kz_in x6) : ∃ mc ms : Nat, mc ≤ 8 ∧ ms ≤ 321 ∧ ∀ sz : Nat, Met l yL_open wgL_open { frames := 8, cells := mc, slots := ms, locals := 190 } (kl_Pc D vwCl (gt G) [.ref hd, .int x1, .int x2, .int x3, .int x4, .int x5, .int x6, .ref ho] (kz_w G hd ha ho z) sz) (va_Qi (kz_po (kM_open σ x1 x2 x3 x4 x5 x6)) (fun z' t' => kw_B D vwCl (gt G) (kz_w G hd ha ho z') (va_A (kz_w G hd ha ho z) sz) t') (va_A (kz_w G hd ha ho z) sz)) mc ms (va_A (kz_w G hd ha ho z) sz) := by
  obtain ⟨Ls, f, g, t⟩ := z
  have hl := hrd.2.2.2.1
  have hr := rd_open hrd x1 x2 x3 x4 x5 x6
  have hc : (kD_open km0 (nI t) (nI Ls.length) x1 x2 x3 x4 x5 x6).1 = 0 ∨ (kD_open km0 (nI t) (nI Ls.length) x1 x2 x3 x4 x5 x6).1 = 1 ∨ (kD_open km0 (nI t) (nI Ls.length) x1 x2 x3 x4 x5 x6).1 = 2 := by
    rcases hr with q | q | q
    · exact Or.inr (Or.inl q.1)
    · exact Or.inr (Or.inr q.1)
    · exact Or.inl q.1
  refine ⟨8, 321, by decide, by decide, fun sz => ?_⟩
  have hL := c_L_open l D G hd ho f x1 x2 x3 x4 x5 x6 (kz_d G hd ha (Ls, f, g, t)) 0 _ rfl rm_D_open 8 321 rfl rfl (by decide) (by decide) (Nat → Nat) _ _ _ (fun E q => (by rcases hc with e | e | e; exact absurd e (ecd_0 q).1; exact Or.inl ((ecd_0 q).2.1 e); exact Or.inr ((ecd_0 q).2.2.1 e))) (fun sz => c_D_open l hlt D G hd ha _ _ g _ km0 x1 x2 x3 x4 x5 x6 sz (by show 0 ≤ (nI Ls.length).toInt; rw [nI_toInt (by have : Ls.length ≤ 3 := hl; omega)]; omega) hst) sz
  refine kl_conv (kz_po (kM_open σ x1 x2 x3 x4 x5 x6)) (kz_w G hd ha ho) (List.Perm.refl _) (fun k q hq => ?_) hL
  match q, hq with
  | none, ⟨E, hE, hk⟩ =>
    rcases hr with ⟨e, e1, e2⟩ | ⟨e, e1, e2⟩ | ⟨e, e1, e2⟩
    · have hk2 : k = 1 := by
        rw [hk, (ecd_0 hE).2.1 e]
        decide +kernel
      exact ⟨(Ls, f, g, t), ⟨e1.trans hk2.symm, fun k0 => absurd (hk2.symm.trans k0) (by decide), e2, hgz⟩, List.Perm.refl _⟩
    · have hk2 : k = 2 := by
        rw [hk, (ecd_0 hE).2.2.1 e]
        decide +kernel
      exact ⟨(Ls, f, g, t), ⟨e1.trans hk2.symm, fun k0 => absurd (hk2.symm.trans k0) (by decide), e2, hgz⟩, List.Perm.refl _⟩
    · exact absurd e (ecd_0 hE).1
  | some (v, u), ⟨hk, hPP, hv⟩ =>
    rcases hr with ⟨e, e1, e2⟩ | ⟨e, e1, e2⟩ | ⟨e, e1, e2, e3, e4⟩
    · exact absurd (e.symm.trans hPP) (by decide)
    · exact absurd (e.symm.trans hPP) (by decide)
    · have hl3 : Ls.length ≤ 3 := hl
      have hcl : (nI Ls.length).toNatClampNeg = Ls.length := nI_clamp (by omega)
      have hlen : (Ls ++ [(u, kN_reckonLevel (kD_made x1 x2 x3 x4 x5 x6 (nI t)) (nI t))]).length = Ls.length + 1 := by
        rw [List.length_append]
        rfl
      refine ⟨(Ls ++ [(u, kN_reckonLevel (kD_made x1 x2 x3 x4 x5 x6 (nI t)) (nI t))], vp_updL f 0 v.toInt64, va_up g Ls.length (some (u 0)), t), ⟨e1.trans hk.symm, fun _ => ?_, e4 u, fun i a hi => ?_⟩, ?_⟩
      · show vp_updL f 0 v.toInt64 0 = _
        rw [vp_updL_0, ← e3]
        exact congrArg Int32.toInt64 hv
      · have hi2 : (Ls.map Prod.fst ++ [u])[i]? = some a := by
          rw [← hi]
          show _ = (List.map Prod.fst (Ls ++ [(u, kN_reckonLevel (kD_made x1 x2 x3 x4 x5 x6 (nI t)) (nI t))]))[i]?
          rw [List.map_append]
          rfl
        show va_up g Ls.length (some (u 0)) i = _
        unfold va_up
        by_cases q : i < Ls.length
        · rw [if_neg (by omega)]
          rw [List.getElem?_append_left (by rw [List.length_map]; exact q)] at hi2
          exact hgz i a hi2
        · by_cases q2 : i = Ls.length
          · subst q2
            rw [if_pos rfl]
            rw [List.getElem?_append_right (by rw [List.length_map]; exact Nat.le_refl _), List.length_map, Nat.sub_self] at hi2
            cases hi2
            rfl
          · rw [List.getElem?_append_right (by rw [List.length_map]; omega), List.length_map, show i - Ls.length = (i - Ls.length - 1) + 1 by omega] at hi2
            cases hi2
      · show (kz_w G hd ha ho (Ls ++ [(u, kN_reckonLevel (kD_made x1 x2 x3 x4 x5 x6 (nI t)) (nI t))], vp_updL f 0 v.toInt64, va_up g Ls.length (some (u 0)), t)).Perm (ocl G ho (vp_updL f 0 v.toInt64) ++ dcl G u hd ha (nI Ls.length + 1) (nI t) (va_up g (nI Ls.length).toNatClampNeg (some (u 0))) (lfm G Ls) (kN_reckonLevel (kD_made x1 x2 x3 x4 x5 x6 (nI t)) (nI t)))
        rw [hcl, nI_1]
        unfold kz_w kz_d
        rw [hlen]
        have hp := lfm_perm2 G hd ha (nI (Ls.length + 1)) (nI t) (va_up g Ls.length (some (u 0))) Ls [] (u, kN_reckonLevel (kD_made x1 x2 x3 x4 x5 x6 (nI t)) (nI t))
        rw [List.append_nil] at hp
        exact List.Perm.append_left _ hp
set_option maxRecDepth 100000 in
set_option maxHeartbeats 4000000 in
theorem km_charge (l : Launch) (hlt : l.stackTraces = false) (D : va_G) (G : Nat → ClassId) (hd ha : Nat) (z : kZ) (σ : KS) (hrd : rd z.1 σ z.2.2.2) (hgz : kz_g z) (x1 x2 : Int32) : ∃ mc ms : Nat, mc ≤ 8 ∧ ms ≤ 321 ∧ ∀ sz : Nat, Met l yL_charge wgL_charge { frames := 8, cells := mc, slots := ms, locals := 190 } (kl_Pc D vwCl (gt G) [.ref hd, .int x1, .int x2] (kz_d G hd ha z) sz) (va_Qi (fun k (z' : kZ) => (kM_charge σ x1 x2) 0 0 = k ∧ rd z'.1 (kM_charge σ x1 x2) z'.2.2.2 ∧ kz_g z') (fun z' t' => kw_B D vwCl (gt G) (kz_d G hd ha z') (va_A (kz_d G hd ha z) sz) t') (va_A (kz_d G hd ha z) sz)) mc ms (va_A (kz_d G hd ha z) sz) := by
  obtain ⟨Ls, f, g, t⟩ := z
  refine ⟨1, 6, by decide, by decide, fun sz => ?_⟩
  rcases rd_charge hrd x1 x2 with ⟨i, y, hy, hx, h1, h2, h3⟩ | ⟨hx, h1, h2⟩
  · obtain ⟨done, todo, hLs, hlen⟩ := ls_split Ls i y hy
    subst hLs
    subst hlen
    have hl := hrd.2.2.2.1
    have hc : (kD_charge y.2 (nI t) x1 x2).1 = 0 ∨ (kD_charge y.2 (nI t) x1 x2).1 = 1 := by
      unfold kD_charge
      repeat' split
      all_goals first | exact Or.inl rfl | exact Or.inr rfl
    have hp : ∀ S : KS, (dcl G y.1 hd ha (nI (done ++ y :: todo).length) (nI t) g (lfm G (done ++ todo)) S).Perm (kz_d G hd ha (done ++ (y.1, S) :: todo, f, g, t)) := fun S => by
      have e : (done ++ (y.1, S) :: todo).length = (done ++ y :: todo).length := by rw [List.length_append, List.length_append]; rfl
      unfold kz_d
      rw [e]
      exact lfm_perm G hd ha _ _ g done todo (y.1, S)
    have hL := c_L_charge l D G hd x1 x2 (dcl G y.1 hd ha (nI (done ++ y :: todo).length) (nI t) g (lfm G (done ++ todo)) y.2) 8 _ rfl rm_D_charge 1 6 rfl rfl (by decide) (by decide) va_W _ (fun u => u) _ (fun E q => (by rcases hc with e | e; exact absurd e (ecd_0 q).1; exact Or.inr ((ecd_0 q).2.1 e))) (fun sz => c_D_charge l hlt D G y.1 hd ha _ _ g _ y.2 x1 x2 sz (km_ix hgz hl hx)) sz
    refine kl_conv _ (kz_d G hd ha) (hp y.2) (fun k q hq => ?_) hL
    match q, hq with
    | none, ⟨E, hE, hk⟩ =>
      have e1 : (kD_charge y.2 (nI t) x1 x2).1 = 1 := hc.resolve_left (ecd_0 hE).1
      have hk1 : k = 2 := by
        rw [hk, (ecd_0 hE).2.1 e1]
        decide +kernel
      have h1' : (kM_charge σ x1 x2) 0 0 = wc (kD_charge y.2 (nI t) x1 x2).1 := h1
      rw [e1] at h1'
      exact ⟨(done ++ y :: todo, f, g, t), ⟨h1'.trans hk1.symm, h3 (ecd_0 hE).1, hgz⟩, (hp y.2).symm⟩
    | some u, ⟨hk, hPP, hu⟩ =>
      have hu' : u = dcl G y.1 hd ha (nI (done ++ y :: todo).length) (nI t) g (lfm G (done ++ todo)) (kD_charge y.2 (nI t) x1 x2).2.2 := hu
      have h1' : (kM_charge σ x1 x2) 0 0 = wc (kD_charge y.2 (nI t) x1 x2).1 := h1
      have q2 : rd ((done ++ y :: todo).set done.length (y.1, (kD_charge y.2 (nI t) x1 x2).2.2)) (kM_charge σ x1 x2) t := (h2 hPP).2
      rw [ls_set] at q2
      rw [hPP] at h1'
      refine ⟨(done ++ (y.1, (kD_charge y.2 (nI t) x1 x2).2.2) :: todo, f, g, t), ⟨h1'.trans hk.symm, q2, km_g hgz⟩, ?_⟩
      show (kz_d G hd ha (done ++ (y.1, (kD_charge y.2 (nI t) x1 x2).2.2) :: todo, f, g, t)).Perm u
      rw [hu']
      exact (hp _).symm
  · have hL := c_L_charge l D G hd x1 x2 (kz_d G hd ha (Ls, f, g, t)) 0 _ rfl rm_D_chargex 1 6 rfl rfl (by decide) (by decide) Unit _ (fun _ => []) _ (fun E q => Or.inl q) (fun sz => km_neverv (c_D_chargex l hlt D G hd ha _ _ g _ x1 x2 sz hx)) sz
    refine kl_conv _ (kz_d G hd ha) (List.Perm.refl _) (fun k q hq => ?_) hL
    match q, hq with
    | none, ⟨E, hE, hk⟩ =>
      have hk1 : k = 1 := by
        rw [hk, hE]
        decide +kernel
      exact ⟨(Ls, f, g, t), ⟨h1.trans hk1.symm, h2, hgz⟩, List.Perm.refl _⟩
    | some u, ⟨_, hF⟩ => exact hF.elim
