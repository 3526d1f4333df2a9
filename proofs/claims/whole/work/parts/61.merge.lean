/-! the wrappers over the whole desk, beside the reference -/
abbrev kZ : Type := kLs × (Nat → Int64) × (Nat → Option Nat) × Nat
def kz_d (G : Nat → ClassId) (hd ha : Nat) (z : kZ) : va_W := dtl G hd ha (nI z.1.length) (nI z.2.2.2) z.2.2.1 (lfm G z.1)
def kz_w (G : Nat → ClassId) (hd ha ho : Nat) (z : kZ) : va_W := ocl G ho z.2.1 ++ kz_d G hd ha z
def kz_g (z : kZ) : Prop := ∀ (i : Nat) (a : Nat → Nat), (z.1.map Prod.fst)[i]? = some a → z.2.2.1 i = some (a 0)
def kz_po (m : Int32 × KS) (k : Int32) (z : kZ) : Prop := m.2 0 0 = k ∧ (k = 0 → z.2.1 0 = m.1.toInt64) ∧ rd z.1 m.2 z.2.2.2 ∧ kz_g z
theorem va_A_perm {w1 w2 : va_W} {sz : Nat} (h : w1.Perm w2) : va_A w1 sz = va_A w2 sz := funext fun q => propext (by
  rw [kw_Am, kw_Am]
  exact or_congr ⟨fun ⟨e, he⟩ => ⟨e, h.mem_iff.1 he⟩, fun ⟨e, he⟩ => ⟨e, h.mem_iff.2 he⟩⟩ Iff.rfl)
theorem kl_conv {l : Launch} {y : MethodName} {wg : List Cond} {rm : Room} {D : va_G} {cl : List vw_C} {tys : List (ClassId × FieldType)} {av : List Value} {w1 w2 : va_W} {sz : Nat} {Z Z' : Type} {po : Int32 → Z → Prop} {wz : Z → va_W} (po' : Int32 → Z' → Prop) (wz' : Z' → va_W) {mc ms : Nat} (hp : w1.Perm w2) (hq : ∀ k z, po k z → ∃ z', po' k z' ∧ (wz' z').Perm (wz z)) (h : Met l y wg rm (kl_Pc D cl tys av w1 sz) (va_Qi po (fun z t => kw_B D cl tys (wz z) (va_A w1 sz) t) (va_A w1 sz)) mc ms (va_A w1 sz)) : Met l y wg rm (kl_Pc D cl tys av w2 sz) (va_Qi po' (fun z t => kw_B D cl tys (wz' z) (va_A w2 sz) t) (va_A w2 sz)) mc ms (va_A w2 sz) := by
  have e := va_A_perm (sz := sz) hp
  rw [← e]
  refine MetFree.mono h (fun a U q => ?_) (fun _ _ _ _ _ q => q) (fun a U o t _ q => ⟨?_, q.2⟩)
  · obtain ⟨⟨⟨hv, hsz, hP, hK, hD⟩, hE⟩, hN⟩ := q
    rw [← e] at hE
    exact ⟨⟨⟨hv, hsz, kw_Pp hP hp, hK, kw_Dp hD hp⟩, hE⟩, hN⟩
  · obtain ⟨⟨⟨r, z, h1, h2, hP, hK, hD⟩, hF⟩, _⟩ := q
    obtain ⟨z', g1, g2⟩ := hq r z h2
    exact ⟨⟨r, z', h1, g1, kw_Pp hP g2, hK, kw_Dp hD g2⟩, hF⟩
theorem ls_split {α : Type} : ∀ (L : List α) (i : Nat) (y : α), L[i]? = some y → ∃ done todo, L = done ++ y :: todo ∧ done.length = i
  | [], _, _, h => by cases h
  | x :: r, 0, y, h => by
    cases h
    exact ⟨[], r, rfl, rfl⟩
  | x :: r, i + 1, y, h => by
    obtain ⟨d, t, h1, h2⟩ := ls_split r i y h
    exact ⟨x :: d, t, by rw [h1]; rfl, by rw [List.length_cons, h2]⟩
theorem ls_set {α : Type} (y z : α) (todo : List α) : ∀ done : List α, (done ++ y :: todo).set done.length z = done ++ z :: todo
  | [] => rfl
  | x :: r => by
    show x :: ((r ++ y :: todo).set r.length z) = _
    rw [ls_set y z todo r]
    rfl
theorem ecd_0 {E : String} {c : Int32} (h : c = ecd E) : ¬ c = 0 ∧ (c = 1 → E = eA) ∧ (c = 2 → E = eS) ∧ (c = 3 → E = eI) ∧ (c = 4 → E = eN) := by
  subst h
  unfold ecd
  by_cases h1 : E = eA
  · rw [if_pos h1]
    exact ⟨by decide, fun _ => h1, fun q => absurd q (by decide), fun q => absurd q (by decide), fun q => absurd q (by decide)⟩
  rw [if_neg h1]
  by_cases h2 : E = eS
  · rw [if_pos h2]
    exact ⟨by decide, fun q => absurd q (by decide), fun _ => h2, fun q => absurd q (by decide), fun q => absurd q (by decide)⟩
  rw [if_neg h2]
  by_cases h3 : E = eI
  · rw [if_pos h3]
    exact ⟨by decide, fun q => absurd q (by decide), fun q => absurd q (by decide), fun _ => h3, fun q => absurd q (by decide)⟩
  rw [if_neg h3]
  by_cases h4 : E = eN
  · rw [if_pos h4]
    exact ⟨by decide, fun q => absurd q (by decide), fun q => absurd q (by decide), fun q => absurd q (by decide), fun _ => h4⟩
  rw [if_neg h4]
  exact ⟨by decide, fun q => absurd q (by decide), fun q => absurd q (by decide), fun q => absurd q (by decide), fun q => absurd q (by decide)⟩
theorem cd_wc {E : String} {c : Int32} (h : c = ecd E) (hc : c = 0 ∨ c = 1 ∨ c = 2 ∨ c = 4) : cd_I E = wc c := by
  have q := ecd_0 h
  rcases hc with e | e | e | e
  · exact absurd e q.1
  · rw [q.2.1 e, e]
    decide +kernel
  · rw [q.2.2.1 e, e]
    decide +kernel
  · rw [q.2.2.2.2 e, e]
    decide +kernel
theorem vp_updL_0 (f : Nat → Int64) (v : Int64) : vp_updL f 0 v 0 = v := if_pos rfl
theorem km_g {done todo : kLs} {y : (Nat → Nat) × KS} {S' : KS} {f f' : Nat → Int64} {g : Nat → Option Nat} {t t' : Nat} (h : kz_g (done ++ y :: todo, f, g, t)) : kz_g (done ++ (y.1, S') :: todo, f', g, t') := fun i a hi => h i a (by
  rw [← hi]
  show (List.map Prod.fst (done ++ y :: todo))[i]? = (List.map Prod.fst (done ++ (y.1, S') :: todo))[i]?
  rw [List.map_append, List.map_append]
  rfl)
/-- the loan is there -/
theorem km_hit {l : Launch} {yL : MethodName} {wgL : List Cond} {rm : Room} {av : List Value} {mc ms : Nat} {D : va_G} {G : Nat → ClassId} {hd ha ho : Nat} {done todo : kLs} {y : (Nat → Nat) × KS} {f : Nat → Int64} {g : Nat → Option Nat} {t : Nat} (hgz : kz_g (done ++ y :: todo, f, g, t)) (r : Int32 × Int32 × KS) (m : Int32 × KS) (h1 : m.2 0 0 = wc r.1) (h2 : r.1 = 0 → r.2.1 = m.1 ∧ rd (done ++ (y.1, r.2.2) :: todo) m.2 t) (h3 : ¬ r.1 = 0 → rd (done ++ y :: todo) m.2 t) (hc : r.1 = 0 ∨ r.1 = 1 ∨ r.1 = 2 ∨ r.1 = 4) (fx : String → Prop) (hfx : ∀ E, fx E → r.1 = ecd E) (P : Prop) (hP : P → r.1 = 0) (sz : Nat)
    (h : Met l yL wgL rm (kl_Pc D vwCl (gt G) av (ocl G ho f ++ dcl G y.1 hd ha (nI (done ++ y :: todo).length) (nI t) g (lfm G (done ++ todo)) y.2) sz) (va_Qi (kl_po fx (fun v (u : va_W) => P ∧ v = r.2.1 ∧ u = dcl G y.1 hd ha (nI (done ++ y :: todo).length) (nI t) g (lfm G (done ++ todo)) r.2.2) cd_I) (fun q t' => kw_B D vwCl (gt G) (kl_w G ho f (dcl G y.1 hd ha (nI (done ++ y :: todo).length) (nI t) g (lfm G (done ++ todo)) y.2) (fun u => u) q) (va_A (ocl G ho f ++ dcl G y.1 hd ha (nI (done ++ y :: todo).length) (nI t) g (lfm G (done ++ todo)) y.2) sz) t') (va_A (ocl G ho f ++ dcl G y.1 hd ha (nI (done ++ y :: todo).length) (nI t) g (lfm G (done ++ todo)) y.2) sz)) mc ms (va_A (ocl G ho f ++ dcl G y.1 hd ha (nI (done ++ y :: todo).length) (nI t) g (lfm G (done ++ todo)) y.2) sz)) :
    Met l yL wgL rm (kl_Pc D vwCl (gt G) av (kz_w G hd ha ho (done ++ y :: todo, f, g, t)) sz) (va_Qi (kz_po m) (fun z t' => kw_B D vwCl (gt G) (kz_w G hd ha ho z) (va_A (kz_w G hd ha ho (done ++ y :: todo, f, g, t)) sz) t') (va_A (kz_w G hd ha ho (done ++ y :: todo, f, g, t)) sz)) mc ms (va_A (kz_w G hd ha ho (done ++ y :: todo, f, g, t)) sz) := by
  have hp : ∀ (S : KS) (f : Nat → Int64), (ocl G ho f ++ dcl G y.1 hd ha (nI (done ++ y :: todo).length) (nI t) g (lfm G (done ++ todo)) S).Perm (kz_w G hd ha ho (done ++ (y.1, S) :: todo, f, g, t)) := fun S f => by
    have e : (done ++ (y.1, S) :: todo).length = (done ++ y :: todo).length := by rw [List.length_append, List.length_append]; rfl
    unfold kz_w kz_d
    rw [e]
    exact List.Perm.append_left _ (lfm_perm G hd ha _ _ g done todo (y.1, S))
  refine kl_conv (kz_po m) (kz_w G hd ha ho) (hp y.2 f) (fun k z hz => ?_) h
  match z, hz with
  | none, ⟨E, hE, hk⟩ =>
    have q := ecd_0 (hfx E hE)
    refine ⟨(done ++ y :: todo, f, g, t), ⟨h1.trans ((cd_wc (hfx E hE) hc).symm.trans hk.symm), fun k0 => ?_, h3 q.1, hgz⟩, (hp y.2 f).symm⟩
    rw [hk, cd_wc (hfx E hE) hc] at k0
    exfalso
    rcases hc with e | e | e | e
    · exact q.1 e
    · rw [e] at k0
      exact absurd k0 (by decide)
    · rw [e] at k0
      exact absurd k0 (by decide)
    · rw [e] at k0
      exact absurd k0 (by decide)
  | some (v, u), ⟨hk, hPP, hv, hu⟩ =>
    have r0 := hP hPP
    obtain ⟨g1, g2⟩ := h2 r0
    refine ⟨(done ++ (y.1, r.2.2) :: todo, vp_updL f 0 v.toInt64, g, t), ⟨?_, fun _ => ?_, g2, km_g hgz⟩, ?_⟩
    · rw [h1, r0]
      exact hk.symm
    · show vp_updL f 0 v.toInt64 0 = _
      rw [vp_updL_0, ← g1]
      exact congrArg Int32.toInt64 hv
    · have hu' : u = dcl G y.1 hd ha (nI (done ++ y :: todo).length) (nI t) g (lfm G (done ++ todo)) r.2.2 := hu
      show (kz_w G hd ha ho (done ++ (y.1, r.2.2) :: todo, vp_updL f 0 v.toInt64, g, t)).Perm (ocl G ho (vp_updL f 0 v.toInt64) ++ u)
      rw [hu']
      exact (hp r.2.2 _).symm
/-- there is no such loan -/
theorem km_miss {l : Launch} {yL : MethodName} {wgL : List Cond} {rm : Room} {av : List Value} {mc ms : Nat} {D : va_G} {G : Nat → ClassId} {hd ha ho : Nat} {z : kZ} (hgz : kz_g z) (m : Int32 × KS) (h1 : m.2 0 0 = 1) (h2 : rd z.1 m.2 z.2.2.2) (sz : Nat)
    (h : Met l yL wgL rm (kl_Pc D vwCl (gt G) av (ocl G ho z.2.1 ++ kz_d G hd ha z) sz) (va_Qi (kl_po (fun E => E = eI) (fun (_ : Int32) (_ : Unit) => False) cd_I) (fun q t' => kw_B D vwCl (gt G) (kl_w G ho z.2.1 (kz_d G hd ha z) (fun _ => []) q) (va_A (ocl G ho z.2.1 ++ kz_d G hd ha z) sz) t') (va_A (ocl G ho z.2.1 ++ kz_d G hd ha z) sz)) mc ms (va_A (ocl G ho z.2.1 ++ kz_d G hd ha z) sz)) :
    Met l yL wgL rm (kl_Pc D vwCl (gt G) av (kz_w G hd ha ho z) sz) (va_Qi (kz_po m) (fun z' t' => kw_B D vwCl (gt G) (kz_w G hd ha ho z') (va_A (kz_w G hd ha ho z) sz) t') (va_A (kz_w G hd ha ho z) sz)) mc ms (va_A (kz_w G hd ha ho z) sz) := by
  refine kl_conv (kz_po m) (kz_w G hd ha ho) (List.Perm.refl _) (fun k q hq => ?_) h
  match q, hq with
  | none, ⟨E, hE, hk⟩ =>
    have hk1 : k = 1 := by
      rw [hk, hE]
      decide +kernel
    exact ⟨z, ⟨h1.trans hk1.symm, fun k0 => absurd (hk1.symm.trans k0) (by decide), h2, hgz⟩, List.Perm.refl _⟩
  | some (v, u), ⟨_, hF⟩ => exact hF.elim
/-- a method that always throws, in the form of one that may return -/
theorem km_never {l : Launch} {y : MethodName} {wg : List Cond} {rm : Room} {Pc : Array Value → State → Prop} {XC : String → State → State → Prop} {mc ms : Nat} {free : Addr → Prop} {B : Unit → State → Prop} {A : Nat → Prop} (h : vx_Met l y wg rm Pc (fun _ _ _ _ => False) XC mc ms free) : vx_Met l y wg rm Pc (va_Qi (fun (_ : Int32) (_ : Unit) => False) B A) XC mc ms free :=
  MetFree.mono h (fun _ _ q => q) (fun _ _ _ _ _ q => q) (fun _ _ _ _ _ q => q.elim (fun z => z.1.elim) Or.inr)
theorem km_neverv {l : Launch} {y : MethodName} {wg : List Cond} {rm : Room} {Pc : Array Value → State → Prop} {XC : String → State → State → Prop} {mc ms : Nat} {free : Addr → Prop} {B : Unit → State → Prop} {A : Nat → Prop} (h : vx_Met l y wg rm Pc (fun _ _ _ _ => False) XC mc ms free) : vx_Met l y wg rm Pc (va_Qv (fun (_ : Unit) => False) B A) XC mc ms free :=
  MetFree.mono h (fun _ _ q => q) (fun _ _ _ _ _ q => q) (fun _ _ _ _ _ q => q.elim (fun z => z.1.elim) Or.inr)
theorem km_ix {done todo : kLs} {y : (Nat → Nat) × KS} {f : Nat → Int64} {g : Nat → Option Nat} {t : Nat} {x : Int32} (hgz : kz_g (done ++ y :: todo, f, g, t)) (hl : (done ++ y :: todo).length ≤ 3) (hx : x = nI done.length) : ¬ x < 0 ∧ x < nI (done ++ y :: todo).length ∧ vp_in x 3 ∧ g x.toNatClampNeg = some (y.1 0) := by
  subst hx
  have hi : done.length < (done ++ y :: todo).length := by
    rw [List.length_append, List.length_cons]
    omega
  refine ⟨nI_nlt (b := 0) (Nat.zero_le _) (by omega), nI_lt hi (by omega), vp_in_nI (by omega) (by decide), ?_⟩
  rw [nI_clamp (by omega)]
  refine hgz done.length y.1 ?_
  show (List.map Prod.fst (done ++ y :: todo))[done.length]? = _
  rw [List.map_append, List.getElem?_append_right (by rw [List.length_map]; exact Nat.le_refl _), List.length_map, Nat.sub_self]
  rfl
