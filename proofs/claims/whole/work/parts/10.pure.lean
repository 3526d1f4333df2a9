/-! pure numbers: the calendar, the level. Nothing here speaks of the machine. -/
-- the calendar: months counted from January 2000, days from 1 January 2000
def pm_first (m : Nat) : Nat := (1461 * ((m + 10) / 12) + 3) / 4 + (153 * ((m + 10) % 12) + 2) / 5 - 306
def pm_ylen (y : Nat) : Nat := if y % 4 = 0 then 366 else 365
def pm_mlen (y m : Nat) : Nat := if m = 1 then pm_ylen y - 337 else if m = 3 ∨ m = 5 ∨ m = 8 ∨ m = 10 then 30 else 31
theorem pm_first_year (y : Nat) : pm_first (12 * y) = (1461 * y + 3) / 4 := by
  unfold pm_first
  omega
theorem pm_first_ysucc (y : Nat) : pm_first (12 * (y + 1)) = pm_first (12 * y) + pm_ylen y := by
  rw [pm_first_year, pm_first_year]
  obtain ⟨q, hq⟩ : ∃ q, y = 4 * q ∨ y = 4 * q + 1 ∨ y = 4 * q + 2 ∨ y = 4 * q + 3 := ⟨y / 4, by omega⟩
  unfold pm_ylen
  rcases hq with rfl | rfl | rfl | rfl
  · rw [if_pos (by omega)]; omega
  · rw [if_neg (by omega)]; omega
  · rw [if_neg (by omega)]; omega
  · rw [if_neg (by omega)]; omega
theorem pm_first_msucc (y m : Nat) (h : m < 12) : pm_first (12 * y + m + 1) = pm_first (12 * y + m) + pm_mlen y m := by
  obtain ⟨q, hq⟩ : ∃ q, y = 4 * q ∨ y = 4 * q + 1 ∨ y = 4 * q + 2 ∨ y = 4 * q + 3 := ⟨y / 4, by omega⟩
  unfold pm_first pm_mlen pm_ylen
  have hc : m = 0 ∨ m = 1 ∨ m = 2 ∨ m = 3 ∨ m = 4 ∨ m = 5 ∨ m = 6 ∨ m = 7 ∨ m = 8 ∨ m = 9 ∨ m = 10 ∨ m = 11 := by omega
  rcases hc with rfl | rfl | rfl | rfl | rfl | rfl | rfl | rfl | rfl | rfl | rfl | rfl <;> rcases hq with rfl | rfl | rfl | rfl <;> simp <;> (try split) <;> omega
theorem pm_mlen_in (y m : Nat) : 28 ≤ pm_mlen y m ∧ pm_mlen y m ≤ 31 := by
  unfold pm_mlen pm_ylen
  split
  · split <;> omega
  · split <;> omega
theorem pm_first_succ (m : Nat) : pm_first m + 28 ≤ pm_first (m + 1) ∧ pm_first (m + 1) ≤ pm_first m + 31 := by
  have h := pm_first_msucc (m / 12) (m % 12) (by omega)
  rw [show 12 * (m / 12) + m % 12 = m by omega] at h
  have := pm_mlen_in (m / 12) (m % 12)
  omega
theorem pm_first_mono {a b : Nat} (h : a ≤ b) : pm_first a ≤ pm_first b := by
  induction h with
  | refl => exact Nat.le_refl _
  | step h ih =>
    rename_i n
    have := pm_first_succ n
    show pm_first a ≤ pm_first (n + 1)
    omega
theorem pm_first_lt {a b : Nat} (h : a < b) : pm_first a + 28 ≤ pm_first b := by
  have h1 := pm_first_succ a
  have h2 := pm_first_mono (a := a + 1) (b := b) h
  omega
/-- month mo holds day d -/
def pm_is (d mo : Nat) : Prop := pm_first mo ≤ d ∧ d < pm_first (mo + 1)
theorem pm_is_uniq {d a b : Nat} (ha : pm_is d a) (hb : pm_is d b) : a = b := by
  unfold pm_is at ha hb
  rcases Nat.lt_trichotomy a b with h | h | h
  · have := pm_first_mono (a := a + 1) (b := b) h
    omega
  · exact h
  · have := pm_first_mono (a := b + 1) (b := a) h
    omega
/-- the month of a day, as the class has it -/
def pm_month (d : Nat) : Nat := 12 * (4 * (d + 306) / 1461) + (5 * ((d + 306) - (1461 * (4 * (d + 306) / 1461) + 3) / 4) + 2) / 153 - 10
theorem pm_month_is (d : Nat) : pm_is d (pm_month d) := by
  unfold pm_is pm_month
  generalize hY : 4 * (d + 306) / 1461 = Y
  generalize hD : (d + 306) - (1461 * Y + 3) / 4 = D
  generalize hM : (5 * D + 2) / 153 = M
  have hD2 : D ≤ 365 := by omega
  have hM2 : M ≤ 11 := by omega
  have h10 : 10 ≤ 12 * Y + M := by omega
  unfold pm_first
  have e1 : (12 * Y + M - 10 + 10) / 12 = Y := by omega
  have e2 : (12 * Y + M - 10 + 10) % 12 = M := by omega
  rw [e1, e2]
  by_cases h11 : M = 11
  · have e3 : (12 * Y + M - 10 + 1 + 10) / 12 = Y + 1 := by omega
    have e4 : (12 * Y + M - 10 + 1 + 10) % 12 = 0 := by omega
    rw [e3, e4]
    constructor <;> omega
  · have e3 : (12 * Y + M - 10 + 1 + 10) / 12 = Y := by omega
    have e4 : (12 * Y + M - 10 + 1 + 10) % 12 = M + 1 := by omega
    rw [e3, e4]
    constructor <;> omega
/-- the number of a day in its month, from 1 -/
def pm_num (d : Nat) : Nat := d - pm_first (pm_month d) + 1
theorem pm_num_in (d : Nat) : 1 ≤ pm_num d ∧ pm_num d ≤ 31 ∧ pm_num d ≤ pm_mlen (pm_month d / 12) (pm_month d % 12) := by
  have h := pm_month_is d
  have hm := pm_first_msucc (pm_month d / 12) (pm_month d % 12) (by omega)
  rw [show 12 * (pm_month d / 12) + pm_month d % 12 = pm_month d by omega] at hm
  have h31 := pm_mlen_in (pm_month d / 12) (pm_month d % 12)
  unfold pm_is at h
  unfold pm_num
  omega
/-- the k-th due day of a loan opened on day d -/
def pm_due (d k : Nat) : Nat := min (pm_first (pm_month d + k) + pm_num d - 1) (pm_first (pm_month d + k + 1) - 1)
theorem pm_due_is (d k : Nat) : pm_is (pm_due d k) (pm_month d + k) := by
  have h1 := pm_num_in d
  have h2 := pm_first_succ (pm_month d + k)
  unfold pm_is pm_due
  omega
theorem pm_due_lt {d a b : Nat} (h : a < b) : pm_due d a < pm_due d b := by
  have h1 := pm_due_is d a
  have h2 := pm_due_is d b
  have h3 := pm_first_mono (a := pm_month d + a + 1) (b := pm_month d + b) (by omega)
  unfold pm_is at h1 h2
  omega
/-- two due days behind one another are 28 days apart at least -/
theorem pm_due_gap (d k : Nat) : pm_due d k + 28 ≤ pm_due d (k + 1) := by
  have h1 := pm_num_in d
  have h2 := pm_first_msucc ((pm_month d + k) / 12) ((pm_month d + k) % 12) (by omega)
  have h3 := pm_first_msucc ((pm_month d + k + 1) / 12) ((pm_month d + k + 1) % 12) (by omega)
  rw [show 12 * ((pm_month d + k) / 12) + (pm_month d + k) % 12 = pm_month d + k by omega] at h2
  rw [show 12 * ((pm_month d + k + 1) / 12) + (pm_month d + k + 1) % 12 = pm_month d + k + 1 by omega] at h3
  have h4 := pm_mlen_in ((pm_month d + k) / 12) ((pm_month d + k) % 12)
  have h5 := pm_mlen_in ((pm_month d + k + 1) / 12) ((pm_month d + k + 1) % 12)
  unfold pm_due
  have e : pm_month d + (k + 1) = pm_month d + k + 1 := by omega
  rw [e]
  omega
theorem pm_due_0 (d : Nat) : pm_due d 0 = d := by
  have h := pm_month_is d
  unfold pm_is at h
  unfold pm_due pm_num
  rw [Nat.add_zero]
  omega
theorem pm_due_ge (d k : Nat) : d + 28 * k ≤ pm_due d k := by
  induction k with
  | zero => rw [pm_due_0]; omega
  | succ k ih =>
    have := pm_due_gap d k
    omega
-- the level: what is left, due day by due day; I: the interest of a span on what is left
def pl_next (I : Nat → Nat) (L x : Nat) : Nat := x - (L - I x)
def pl_end : List (Nat → Nat) → Nat → Nat → Nat
  | [], _, x => x
  | I :: r, L, x => pl_end r L (pl_next I L x)
def pl_up (I : Nat → Nat) : Prop := ∀ x y, x ≤ y → I x ≤ I y
theorem pl_next_mono {I : Nat → Nat} (hI : pl_up I) {L M x y : Nat} (hL : M ≤ L) (h : x ≤ y) : pl_next I L x ≤ pl_next I M y := by
  have := hI x y h
  unfold pl_next
  omega
theorem pl_end_mono {Is : List (Nat → Nat)} (hI : ∀ I ∈ Is, pl_up I) {L M : Nat} (hL : M ≤ L) : ∀ {x y : Nat}, x ≤ y → pl_end Is L x ≤ pl_end Is M y := by
  induction Is with
  | nil => intro x y h; exact h
  | cons I r ih =>
    intro x y h
    exact ih (fun J hJ => hI J (List.mem_cons_of_mem _ hJ)) (pl_next_mono (hI I List.mem_cons_self) hL h)
theorem pl_end_0 (Is : List (Nat → Nat)) (L : Nat) : pl_end Is L 0 = 0 := by
  induction Is with
  | nil => rfl
  | cons I r ih =>
    show pl_end r L (pl_next I L 0) = 0
    rw [show pl_next I L 0 = 0 by unfold pl_next; omega]
    exact ih
theorem pl_end_L0 (Is : List (Nat → Nat)) (x : Nat) : pl_end Is 0 x = x := by
  induction Is generalizing x with
  | nil => rfl
  | cons I r ih =>
    show pl_end r 0 (pl_next I 0 x) = x
    rw [show pl_next I 0 x = x by unfold pl_next; omega]
    exact ih x
theorem pl_end_enough (I : Nat → Nat) (r : List (Nat → Nat)) (x : Nat) : pl_end (I :: r) (x + I x) x = 0 := by
  show pl_end r _ (pl_next I _ x) = 0
  rw [show pl_next I (x + I x) x = 0 by unfold pl_next; omega]
  exact pl_end_0 r _
theorem pl_next_le (I : Nat → Nat) (L x : Nat) : pl_next I L x ≤ x := by unfold pl_next; omega
theorem pl_end_le (Is : List (Nat → Nat)) (L x : Nat) : pl_end Is L x ≤ x := by
  induction Is generalizing x with
  | nil => exact Nat.le_refl _
  | cons I r ih => exact Nat.le_trans (ih _) (pl_next_le I L x)
/-- t is the least level: below it something is left, from it on nothing -/
def pl_is (P : Nat → Prop) (t : Nat) : Prop := ∀ x, P x ↔ x < t
theorem pl_is_uniq {P : Nat → Prop} {a b : Nat} (ha : pl_is P a) (hb : pl_is P b) : a = b := by
  have h1 := ha b
  have h2 := hb a
  have h3 := hb b
  have h4 := ha a
  rcases Nat.lt_trichotomy a b with h | h | h
  · exact absurd (h4.mp (h2.mpr h)) (Nat.lt_irrefl _)
  · exact h
  · exact absurd (h3.mp (h1.mpr h)) (Nat.lt_irrefl _)
theorem pl_is_ex {P : Nat → Prop} (hP : ∀ x y, x ≤ y → P y → P x) {h : Nat} (hh : ¬ P h) : ∃ t, t ≤ h ∧ pl_is P t := by
  obtain ⟨k, hk, hm⟩ := pk_least (fun n => ¬ P n) ⟨h, hh⟩
  refine ⟨k, Nat.not_lt.mp (fun q => hm h q hh), fun x => ⟨fun hx => Nat.not_le.mp (fun q => hk (hP k x q hx)), fun hx => Classical.byContradiction (hm x hx)⟩⟩
/-- by halving, as the class does it -/
def pl_bis (P : Nat → Bool) : Nat → Nat → Nat → Nat
  | 0, _, hi => hi
  | n + 1, lo, hi => if 1 < hi - lo then (if P (lo + (hi - lo) / 2) then pl_bis P n (lo + (hi - lo) / 2) hi else pl_bis P n lo (lo + (hi - lo) / 2)) else hi
theorem pl_bis_is {P : Nat → Bool} {t : Nat} (ht : pl_is (fun x => P x = true) t) : ∀ (n lo hi : Nat), lo < t → t ≤ hi → hi - lo ≤ 2 ^ n → pl_bis P n lo hi = t := by
  intro n
  induction n with
  | zero =>
    intro lo hi h1 h2 h3
    show hi = t
    omega
  | succ n ih =>
    intro lo hi h1 h2 h3
    rw [Nat.pow_succ] at h3
    show (if 1 < hi - lo then (if P (lo + (hi - lo) / 2) then pl_bis P n (lo + (hi - lo) / 2) hi else pl_bis P n lo (lo + (hi - lo) / 2)) else hi) = t
    split
    · have hm := ht (lo + (hi - lo) / 2)
      split
      · rename_i h
        exact ih _ _ (hm.mp h) h2 (by omega)
      · rename_i h
        exact ih _ _ h1 (Nat.not_lt.mp (fun q => h (hm.mpr q))) (by omega)
    · omega
/-- bit by bit, as the reference does it -/
def pl_bits (P : Nat → Bool) : Nat → Nat → Nat
  | 0, most => most
  | n + 1, most => pl_bits P n (if P (most + 2 ^ n) then most + 2 ^ n else most)
theorem pl_bits_is {P : Nat → Bool} {t : Nat} (ht : pl_is (fun x => P x = true) t) : ∀ (n most : Nat), most < t → t ≤ most + 2 ^ n → pl_bits P n most + 1 = t := by
  intro n
  induction n with
  | zero =>
    intro most h1 h2
    show most + 1 = t
    rw [Nat.pow_zero] at h2
    omega
  | succ n ih =>
    intro most h1 h2
    rw [Nat.pow_succ] at h2
    have hm := ht (most + 2 ^ n)
    show pl_bits P n (if P (most + 2 ^ n) then most + 2 ^ n else most) + 1 = t
    split
    · rename_i h
      exact ih _ (hm.mp h) (by omega)
    · rename_i h
      exact ih _ h1 (Nat.not_lt.mp (fun q => h (hm.mpr q)))
-- days in long years; the span of rule 3
def pg_long (x : Nat) : Nat := x / 1461 * 366 + min (x % 1461) 366
def pg_w (x : Nat) : Nat := pg_long x * 365 + (x - pg_long x) * 366
theorem pg_long_le (x : Nat) : pg_long x ≤ x := by unfold pg_long; omega
theorem pg_long_mono {a b : Nat} (h : a ≤ b) : pg_long a ≤ pg_long b ∧ pg_long b - pg_long a ≤ b - a := by unfold pg_long; omega
/-- inside one year the weight grows evenly -/
theorem pg_w_in (y : Nat) {a b : Nat} (h1 : pm_first (12 * y) ≤ a) (h2 : a ≤ b) (h3 : b ≤ pm_first (12 * (y + 1))) : pg_w b = pg_w a + (b - a) * (if pm_ylen y = 366 then 365 else 366) := by
  rw [pm_first_year] at h1 h3
  obtain ⟨q, hq⟩ : ∃ q, y = 4 * q ∨ y = 4 * q + 1 ∨ y = 4 * q + 2 ∨ y = 4 * q + 3 := ⟨y / 4, by omega⟩
  have hl : pg_long b - pg_long a = (if pm_ylen y = 366 then b - a else 0) := by
    rcases hq with rfl | rfl | rfl | rfl
    · rw [if_pos (show pm_ylen (4 * q) = 366 by unfold pm_ylen; rw [if_pos (by omega)])]; unfold pg_long; omega
    · rw [if_neg (show ¬ pm_ylen (4 * q + 1) = 366 by unfold pm_ylen; rw [if_neg (by omega)]; decide)]; unfold pg_long; omega
    · rw [if_neg (show ¬ pm_ylen (4 * q + 2) = 366 by unfold pm_ylen; rw [if_neg (by omega)]; decide)]; unfold pg_long; omega
    · rw [if_neg (show ¬ pm_ylen (4 * q + 3) = 366 by unfold pm_ylen; rw [if_neg (by omega)]; decide)]; unfold pg_long; omega
  have h4 := pg_long_mono h2
  have h5 := pg_long_le a
  have h6 := pg_long_le b
  unfold pg_w
  split at hl
  · rename_i h
    rw [if_pos h]
    omega
  · rename_i h
    rw [if_neg h]
    omega
theorem pg_w_mono {a b : Nat} (h : a ≤ b) : pg_w a ≤ pg_w b ∧ pg_w b - pg_w a ≤ (b - a) * 366 := by
  have h4 := pg_long_mono h
  have h5 := pg_long_le a
  have h6 := pg_long_le b
  unfold pg_w
  omega
