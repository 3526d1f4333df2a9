/-! the reference: days go by -/
theorem kx_mb (A : KS) (ln kd : Int32) : kM_makeBill A ln kd 0 0 = A 0 0 ∧ kM_makeBill A ln kd 0 1 = A 0 1 ∧ kM_makeBill A ln kd 0 2 = A 0 2 := by
  unfold kM_makeBill
  repeat' split
  all_goals exact ⟨rfl, rfl, rfl⟩
theorem kx_mbs {S A : KS} {ln kd : Int32} (h : A 0 0 = S 0 0 ∧ A 0 1 = S 0 1 ∧ A 0 2 = S 0 2) : kM_makeBill A ln kd 0 0 = S 0 0 ∧ kM_makeBill A ln kd 0 1 = S 0 1 ∧ kM_makeBill A ln kd 0 2 = S 0 2 := by
  have q := kx_mb A ln kd
  exact ⟨q.1.trans h.1, q.2.1.trans h.2.1, q.2.2.trans h.2.2⟩
theorem kx_dl (S : KS) (ln : Int32) : (kM_dayOfLoan S ln).2 0 0 = S 0 0 ∧ (kM_dayOfLoan S ln).2 0 1 = S 0 1 ∧ (kM_dayOfLoan S ln).2 0 2 = S 0 2 := by
  unfold kM_dayOfLoan
  repeat' split
  all_goals first | exact kx_mbs ⟨rfl, rfl, rfl⟩ | exact ⟨rfl, rfl, rfl⟩
/-- today is one more -/
def kd0 (S : KS) : KS := mkM (S 0 0) ((S 0 1) + 1) (S 0 2) (S 0 3) (S 0 4) (S 0 5) (S 1) (S 2) (S 3) (S 4) (S 5) (S 6) (S 7) (S 8) (S 9) (S 10) (S 11) (S 12) (S 13) (S 14) (S 15) (S 16) (S 17) (S 18) (S 19) (S 20) (S 21) (S 22)
def kd1 (S : KS) : KS := (kM_dayOfLoan (kd0 S) 0).2
def kd2 (S : KS) : KS := (kM_dayOfLoan (kd1 S) 1).2
def kd3 (S : KS) : KS := (kM_dayOfLoan (kd2 S) 2).2
def kd_day (S : KS) : KS := if S 0 2 ≤ 0 then kd0 S else if S 0 2 ≤ 1 then kd1 S else if S 0 2 ≤ 2 then kd2 S else kd3 S
theorem kd_day_0 {S : KS} (h : S 0 2 ≤ 0) : kd_day S = kd0 S := if_pos h
theorem kd_day_1 {S : KS} (h : ¬ S 0 2 ≤ 0) (h1 : S 0 2 ≤ 1) : kd_day S = kd1 S := (if_neg h).trans (if_pos h1)
theorem kd_day_2 {S : KS} (h : ¬ S 0 2 ≤ 0) (h1 : ¬ S 0 2 ≤ 1) (h2 : S 0 2 ≤ 2) : kd_day S = kd2 S := (if_neg h).trans ((if_neg h1).trans (if_pos h2))
theorem kd_day_3 {S : KS} (h : ¬ S 0 2 ≤ 0) (h1 : ¬ S 0 2 ≤ 1) (h2 : ¬ S 0 2 ≤ 2) : kd_day S = kd3 S := (if_neg h).trans ((if_neg h1).trans (if_neg h2))
theorem kd_02 (S : KS) : (kd1 S) 0 2 = S 0 2 ∧ (kd2 S) 0 2 = S 0 2 ∧ (kd3 S) 0 2 = S 0 2 := by
  have e1 : (kd1 S) 0 2 = S 0 2 := (kx_dl (kd0 S) 0).2.2
  have e2 : (kd2 S) 0 2 = S 0 2 := ((kx_dl (kd1 S) 1).2.2).trans e1
  exact ⟨e1, e2, ((kx_dl (kd2 S) 2).2.2).trans e2⟩
theorem kd_00 (S : KS) : (kd1 S) 0 0 = S 0 0 ∧ (kd2 S) 0 0 = S 0 0 ∧ (kd3 S) 0 0 = S 0 0 := by
  have e1 : (kd1 S) 0 0 = S 0 0 := (kx_dl (kd0 S) 0).1
  have e2 : (kd2 S) 0 0 = S 0 0 := ((kx_dl (kd1 S) 1).1).trans e1
  exact ⟨e1, e2, ((kx_dl (kd2 S) 2).1).trans e2⟩
def pk_day (S : KS) (ln : Int32) : Prop := S 0 1 ≤ 1073741824 ∧ 0 ≤ (S 17 ln.toNatClampNeg).toInt ∧ (S 17 ln.toNatClampNeg).toInt < 60
def kd_ok (S : KS) : Prop := (¬ S 0 2 ≤ 0 → pk_day (kd0 S) 0) ∧ (¬ S 0 2 ≤ 1 → pk_day (kd1 S) 1) ∧ (¬ S 0 2 ≤ 2 → pk_day (kd2 S) 2)
def kc0 (S : KS) : KS := mkM 0 (S 0 1) (S 0 2) (S 0 3) (S 0 4) (S 0 5) (S 1) (S 2) (S 3) (S 4) (S 5) (S 6) (S 7) (S 8) (S 9) (S 10) (S 11) (S 12) (S 13) (S 14) (S 15) (S 16) (S 17) (S 18) (S 19) (S 20) (S 21) (S 22)
def lf_ad (σ : KS) (days : Int32) : Nat → Int32 → Int32 → KS → Int32 × KS
  | 0, _, _, S => (0, S)
  | n + 1, nn, dd, S => if days ≤ dd then (nn, S) else (if (S 0 2) ≤ (0 : Int32) then (lf_ad σ days n nn (dd + 1) (mkM (S 0 0) ((S 0 1) + 1) (S 0 2) (S 0 3) (S 0 4) (S 0 5) (S 1) (S 2) (S 3) (S 4) (S 5) (S 6) (S 7) (S 8) (S 9) (S 10) (S 11) (S 12) (S 13) (S 14) (S 15) (S 16) (S 17) (S 18) (S 19) (S 20) (S 21) (S 22))) else (if (((kM_dayOfLoan (mkM (S 0 0) ((S 0 1) + 1) (S 0 2) (S 0 3) (S 0 4) (S 0 5) (S 1) (S 2) (S 3) (S 4) (S 5) (S 6) (S 7) (S 8) (S 9) (S 10) (S 11) (S 12) (S 13) (S 14) (S 15) (S 16) (S 17) (S 18) (S 19) (S 20) (S 21) (S 22)) (0 : Int32)).2) 0 2) ≤ (1 : Int32) then (lf_ad σ days n (nn + ((kM_dayOfLoan (mkM (S 0 0) ((S 0 1) + 1) (S 0 2) (S 0 3) (S 0 4) (S 0 5) (S 1) (S 2) (S 3) (S 4) (S 5) (S 6) (S 7) (S 8) (S 9) (S 10) (S 11) (S 12) (S 13) (S 14) (S 15) (S 16) (S 17) (S 18) (S 19) (S 20) (S 21) (S 22)) (0 : Int32)).1)) (dd + 1) ((kM_dayOfLoan (mkM (S 0 0) ((S 0 1) + 1) (S 0 2) (S 0 3) (S 0 4) (S 0 5) (S 1) (S 2) (S 3) (S 4) (S 5) (S 6) (S 7) (S 8) (S 9) (S 10) (S 11) (S 12) (S 13) (S 14) (S 15) (S 16) (S 17) (S 18) (S 19) (S 20) (S 21) (S 22)) (0 : Int32)).2)) else (if (((kM_dayOfLoan ((kM_dayOfLoan (mkM (S 0 0) ((S 0 1) + 1) (S 0 2) (S 0 3) (S 0 4) (S 0 5) (S 1) (S 2) (S 3) (S 4) (S 5) (S 6) (S 7) (S 8) (S 9) (S 10) (S 11) (S 12) (S 13) (S 14) (S 15) (S 16) (S 17) (S 18) (S 19) (S 20) (S 21) (S 22)) (0 : Int32)).2) (1 : Int32)).2) 0 2) ≤ (2 : Int32) then (lf_ad σ days n ((nn + ((kM_dayOfLoan (mkM (S 0 0) ((S 0 1) + 1) (S 0 2) (S 0 3) (S 0 4) (S 0 5) (S 1) (S 2) (S 3) (S 4) (S 5) (S 6) (S 7) (S 8) (S 9) (S 10) (S 11) (S 12) (S 13) (S 14) (S 15) (S 16) (S 17) (S 18) (S 19) (S 20) (S 21) (S 22)) (0 : Int32)).1)) + ((kM_dayOfLoan ((kM_dayOfLoan (mkM (S 0 0) ((S 0 1) + 1) (S 0 2) (S 0 3) (S 0 4) (S 0 5) (S 1) (S 2) (S 3) (S 4) (S 5) (S 6) (S 7) (S 8) (S 9) (S 10) (S 11) (S 12) (S 13) (S 14) (S 15) (S 16) (S 17) (S 18) (S 19) (S 20) (S 21) (S 22)) (0 : Int32)).2) (1 : Int32)).1)) (dd + 1) ((kM_dayOfLoan ((kM_dayOfLoan (mkM (S 0 0) ((S 0 1) + 1) (S 0 2) (S 0 3) (S 0 4) (S 0 5) (S 1) (S 2) (S 3) (S 4) (S 5) (S 6) (S 7) (S 8) (S 9) (S 10) (S 11) (S 12) (S 13) (S 14) (S 15) (S 16) (S 17) (S 18) (S 19) (S 20) (S 21) (S 22)) (0 : Int32)).2) (1 : Int32)).2)) else (lf_ad σ days n (((nn + ((kM_dayOfLoan (mkM (S 0 0) ((S 0 1) + 1) (S 0 2) (S 0 3) (S 0 4) (S 0 5) (S 1) (S 2) (S 3) (S 4) (S 5) (S 6) (S 7) (S 8) (S 9) (S 10) (S 11) (S 12) (S 13) (S 14) (S 15) (S 16) (S 17) (S 18) (S 19) (S 20) (S 21) (S 22)) (0 : Int32)).1)) + ((kM_dayOfLoan ((kM_dayOfLoan (mkM (S 0 0) ((S 0 1) + 1) (S 0 2) (S 0 3) (S 0 4) (S 0 5) (S 1) (S 2) (S 3) (S 4) (S 5) (S 6) (S 7) (S 8) (S 9) (S 10) (S 11) (S 12) (S 13) (S 14) (S 15) (S 16) (S 17) (S 18) (S 19) (S 20) (S 21) (S 22)) (0 : Int32)).2) (1 : Int32)).1)) + ((kM_dayOfLoan ((kM_dayOfLoan ((kM_dayOfLoan (mkM (S 0 0) ((S 0 1) + 1) (S 0 2) (S 0 3) (S 0 4) (S 0 5) (S 1) (S 2) (S 3) (S 4) (S 5) (S 6) (S 7) (S 8) (S 9) (S 10) (S 11) (S 12) (S 13) (S 14) (S 15) (S 16) (S 17) (S 18) (S 19) (S 20) (S 21) (S 22)) (0 : Int32)).2) (1 : Int32)).2) (2 : Int32)).1)) (dd + 1) ((kM_dayOfLoan ((kM_dayOfLoan ((kM_dayOfLoan (mkM (S 0 0) ((S 0 1) + 1) (S 0 2) (S 0 3) (S 0 4) (S 0 5) (S 1) (S 2) (S 3) (S 4) (S 5) (S 6) (S 7) (S 8) (S 9) (S 10) (S 11) (S 12) (S 13) (S 14) (S 15) (S 16) (S 17) (S 18) (S 19) (S 20) (S 21) (S 22)) (0 : Int32)).2) (1 : Int32)).2) (2 : Int32)).2)))))
def lok_ad (σ : KS) (days : Int32) : Nat → Int32 → Int32 → KS → Bool
  | 0, _, _, _ => false
  | n + 1, nn, dd, S => if days ≤ dd then true else (if (S 0 2) ≤ (0 : Int32) then (lok_ad σ days n nn (dd + 1) (mkM (S 0 0) ((S 0 1) + 1) (S 0 2) (S 0 3) (S 0 4) (S 0 5) (S 1) (S 2) (S 3) (S 4) (S 5) (S 6) (S 7) (S 8) (S 9) (S 10) (S 11) (S 12) (S 13) (S 14) (S 15) (S 16) (S 17) (S 18) (S 19) (S 20) (S 21) (S 22))) else (if (((kM_dayOfLoan (mkM (S 0 0) ((S 0 1) + 1) (S 0 2) (S 0 3) (S 0 4) (S 0 5) (S 1) (S 2) (S 3) (S 4) (S 5) (S 6) (S 7) (S 8) (S 9) (S 10) (S 11) (S 12) (S 13) (S 14) (S 15) (S 16) (S 17) (S 18) (S 19) (S 20) (S 21) (S 22)) (0 : Int32)).2) 0 2) ≤ (1 : Int32) then (lok_ad σ days n (nn + ((kM_dayOfLoan (mkM (S 0 0) ((S 0 1) + 1) (S 0 2) (S 0 3) (S 0 4) (S 0 5) (S 1) (S 2) (S 3) (S 4) (S 5) (S 6) (S 7) (S 8) (S 9) (S 10) (S 11) (S 12) (S 13) (S 14) (S 15) (S 16) (S 17) (S 18) (S 19) (S 20) (S 21) (S 22)) (0 : Int32)).1)) (dd + 1) ((kM_dayOfLoan (mkM (S 0 0) ((S 0 1) + 1) (S 0 2) (S 0 3) (S 0 4) (S 0 5) (S 1) (S 2) (S 3) (S 4) (S 5) (S 6) (S 7) (S 8) (S 9) (S 10) (S 11) (S 12) (S 13) (S 14) (S 15) (S 16) (S 17) (S 18) (S 19) (S 20) (S 21) (S 22)) (0 : Int32)).2)) else (if (((kM_dayOfLoan ((kM_dayOfLoan (mkM (S 0 0) ((S 0 1) + 1) (S 0 2) (S 0 3) (S 0 4) (S 0 5) (S 1) (S 2) (S 3) (S 4) (S 5) (S 6) (S 7) (S 8) (S 9) (S 10) (S 11) (S 12) (S 13) (S 14) (S 15) (S 16) (S 17) (S 18) (S 19) (S 20) (S 21) (S 22)) (0 : Int32)).2) (1 : Int32)).2) 0 2) ≤ (2 : Int32) then (lok_ad σ days n ((nn + ((kM_dayOfLoan (mkM (S 0 0) ((S 0 1) + 1) (S 0 2) (S 0 3) (S 0 4) (S 0 5) (S 1) (S 2) (S 3) (S 4) (S 5) (S 6) (S 7) (S 8) (S 9) (S 10) (S 11) (S 12) (S 13) (S 14) (S 15) (S 16) (S 17) (S 18) (S 19) (S 20) (S 21) (S 22)) (0 : Int32)).1)) + ((kM_dayOfLoan ((kM_dayOfLoan (mkM (S 0 0) ((S 0 1) + 1) (S 0 2) (S 0 3) (S 0 4) (S 0 5) (S 1) (S 2) (S 3) (S 4) (S 5) (S 6) (S 7) (S 8) (S 9) (S 10) (S 11) (S 12) (S 13) (S 14) (S 15) (S 16) (S 17) (S 18) (S 19) (S 20) (S 21) (S 22)) (0 : Int32)).2) (1 : Int32)).1)) (dd + 1) ((kM_dayOfLoan ((kM_dayOfLoan (mkM (S 0 0) ((S 0 1) + 1) (S 0 2) (S 0 3) (S 0 4) (S 0 5) (S 1) (S 2) (S 3) (S 4) (S 5) (S 6) (S 7) (S 8) (S 9) (S 10) (S 11) (S 12) (S 13) (S 14) (S 15) (S 16) (S 17) (S 18) (S 19) (S 20) (S 21) (S 22)) (0 : Int32)).2) (1 : Int32)).2)) else (lok_ad σ days n (((nn + ((kM_dayOfLoan (mkM (S 0 0) ((S 0 1) + 1) (S 0 2) (S 0 3) (S 0 4) (S 0 5) (S 1) (S 2) (S 3) (S 4) (S 5) (S 6) (S 7) (S 8) (S 9) (S 10) (S 11) (S 12) (S 13) (S 14) (S 15) (S 16) (S 17) (S 18) (S 19) (S 20) (S 21) (S 22)) (0 : Int32)).1)) + ((kM_dayOfLoan ((kM_dayOfLoan (mkM (S 0 0) ((S 0 1) + 1) (S 0 2) (S 0 3) (S 0 4) (S 0 5) (S 1) (S 2) (S 3) (S 4) (S 5) (S 6) (S 7) (S 8) (S 9) (S 10) (S 11) (S 12) (S 13) (S 14) (S 15) (S 16) (S 17) (S 18) (S 19) (S 20) (S 21) (S 22)) (0 : Int32)).2) (1 : Int32)).1)) + ((kM_dayOfLoan ((kM_dayOfLoan ((kM_dayOfLoan (mkM (S 0 0) ((S 0 1) + 1) (S 0 2) (S 0 3) (S 0 4) (S 0 5) (S 1) (S 2) (S 3) (S 4) (S 5) (S 6) (S 7) (S 8) (S 9) (S 10) (S 11) (S 12) (S 13) (S 14) (S 15) (S 16) (S 17) (S 18) (S 19) (S 20) (S 21) (S 22)) (0 : Int32)).2) (1 : Int32)).2) (2 : Int32)).1)) (dd + 1) ((kM_dayOfLoan ((kM_dayOfLoan ((kM_dayOfLoan (mkM (S 0 0) ((S 0 1) + 1) (S 0 2) (S 0 3) (S 0 4) (S 0 5) (S 1) (S 2) (S 3) (S 4) (S 5) (S 6) (S 7) (S 8) (S 9) (S 10) (S 11) (S 12) (S 13) (S 14) (S 15) (S 16) (S 17) (S 18) (S 19) (S 20) (S 21) (S 22)) (0 : Int32)).2) (1 : Int32)).2) (2 : Int32)).2)))))
def kM_advance (σ : KS) (days : Int32) : Int32 × KS := if (0 : Int32) ≤ days then (if days ≤ (1500 - (σ 0 1)) then (lf_ad σ days (days.toNatClampNeg + 1) (0 : Int32) (0 : Int32) (mkM 0 (σ 0 1) (σ 0 2) (σ 0 3) (σ 0 4) (σ 0 5) (σ 1) (σ 2) (σ 3) (σ 4) (σ 5) (σ 6) (σ 7) (σ 8) (σ 9) (σ 10) (σ 11) (σ 12) (σ 13) (σ 14) (σ 15) (σ 16) (σ 17) (σ 18) (σ 19) (σ 20) (σ 21) (σ 22))) else (if days ≤ (0 : Int32) then (0, mkM 2 (σ 0 1) (σ 0 2) (σ 0 3) (σ 0 4) (σ 0 5) (σ 1) (σ 2) (σ 3) (σ 4) (σ 5) (σ 6) (σ 7) (σ 8) (σ 9) (σ 10) (σ 11) (σ 12) (σ 13) (σ 14) (σ 15) (σ 16) (σ 17) (σ 18) (σ 19) (σ 20) (σ 21) (σ 22)) else (0, mkM 2 (σ 0 1) (σ 0 2) (σ 0 3) (σ 0 4) (σ 0 5) (σ 1) (σ 2) (σ 3) (σ 4) (σ 5) (σ 6) (σ 7) (σ 8) (σ 9) (σ 10) (σ 11) (σ 12) (σ 13) (σ 14) (σ 15) (σ 16) (σ 17) (σ 18) (σ 19) (σ 20) (σ 21) (σ 22)))) else (if days ≤ (0 : Int32) then (0, mkM 1 (σ 0 1) (σ 0 2) (σ 0 3) (σ 0 4) (σ 0 5) (σ 1) (σ 2) (σ 3) (σ 4) (σ 5) (σ 6) (σ 7) (σ 8) (σ 9) (σ 10) (σ 11) (σ 12) (σ 13) (σ 14) (σ 15) (σ 16) (σ 17) (σ 18) (σ 19) (σ 20) (σ 21) (σ 22)) else (0, mkM 1 (σ 0 1) (σ 0 2) (σ 0 3) (σ 0 4) (σ 0 5) (σ 1) (σ 2) (σ 3) (σ 4) (σ 5) (σ 6) (σ 7) (σ 8) (σ 9) (σ 10) (σ 11) (σ 12) (σ 13) (σ 14) (σ 15) (σ 16) (σ 17) (σ 18) (σ 19) (σ 20) (σ 21) (σ 22)))
abbrev wgM_advance : List Cond := .code yM_advance cM_advance 5 (some .int) :: GW
abbrev rm_M_advance : Room := { frames := 8, cells := 0, slots := 0, locals := 188 }
theorem lok_ad_ok (σ : KS) (days : Int32) : ∀ (n : Nat) (nn dd : Int32) (S : KS), days.toInt - dd.toInt ≤ n → lok_ad σ days (n + 1) nn dd S = true := by
  intro n
  induction n with
  | zero =>
    intro nn dd S h
    unfold lok_ad
    rw [if_pos]
    rw [Int32.le_iff_toInt_le]
    omega
  | succ n ih =>
    intro nn dd S h
    unfold lok_ad
    split
    · rfl
    · rename_i h2
      have := kd_up h2
      repeat' split
      all_goals exact ih _ _ _ (by omega)
set_option maxRecDepth 100000 in
set_option maxHeartbeats 4000000 in
theorem c_M_advance (l : Launch) (D : va_G) (G : Nat → ClassId) (b : Nat → Nat) (σ : KS) (u0 : Int32 × Int32 × Int32) (days : Int32) (sz : Nat) (nl : Nat) (hnl : σ 0 2 = nI nl) (hn3 : nl ≤ 3) (Iv : Int32 → KS → Prop) (h0 : (0 : Int32) ≤ days → days ≤ (1500 - (σ 0 1)) → Iv 0 (kc0 σ)) (hs : ∀ (dd : Int32) (S : KS), Iv dd S → S 0 2 = σ 0 2 → ¬ days ≤ dd → kd_ok S ∧ Iv (dd + 1) (kd_day S)) : Met l yM_advance wgM_advance rm_M_advance (kw_Pc D vwCl (gt G) [.ref (b 0), .int days] (mcells G b (scr σ u0)) sz) (kx_i D vwCl (gt G) (mcells G b (scr σ u0)) sz ((kM_advance σ days).1) (fun u => mcells G b (scr ((kM_advance σ days).2) u))) 0 0 (va_A (mcells G b (scr σ u0)) sz) := by
  refine Met.ofW (cc := cM_advance) (maxL := 5) (ret := (some .int)) (by decide) rfl ?_
  intro p e s m args below meth c s₁ B hml hv
  have hx := B.exec
  have hb := B.bytes
  have hr := B.returns
  have hts := atoms_spec (ws := wgM_advance) B.pre
  have hg : ∀ w ∈ GW, w.before args s = true := fun w h => hts w (List.mem_cons_of_mem _ h)
  have hown : s.vm.findClass RM = some m.cls := findClass_of_methodNamed B.named
  have hlocks := B.notSynchronized
  obtain ⟨hv, hsz, hP, hK, hD0⟩ := hv
  subst hsz
  have hD := hD0.self (sz := s.heap.size)
  have hS : va_S (va_A (mcells G b (scr σ u0)) s.heap.size) s.heap s.heap [] := va_S.rf
  refine kw_entry [.ref (b 0), .int days] hv (Nat.le_of_ble_eq_true rfl) (fun ls hl => ?_)
  have hl : lv_has ls 5 [(0, .ref (b 0)), (1, .int days)] := hl
  refine lv_aload_n hx hb dM_advance_0 rfl (lv_at hl 0 rfl) ?_
  refine lv_iload_n hx hb dM_advance_1 rfl (lv_at hl 1 rfl) ?_
  refine lv_if_ge (tgt := 9) hx hb dM_advance_2 (by decide) (fun h1 => ?_) (fun h1 => ?_)
  · skip
    refine lv_iload_n hx hb dM_advance_9 rfl (lv_at hl 1 rfl) ?_
    refine lv_sipush (v := 1500) hx hb dM_advance_10 (by decide) ?_
    refine lv_aload_n hx hb dM_advance_13 rfl (lv_at hl 0 rfl) ?_
    refine va_get (v := .int (σ 0 1)) hx hb hg hin_M hown hK hP 0 rfl rfl 1 (by decide) (hg _ gw_495) (fun _ h => h) rfl dM_advance_14 ?_
    refine lv_isub hx hb dM_advance_17 ?_
    refine lv_icmp_le (tgt := 25) hx hb dM_advance_18 (by decide) (fun h2 => ?_) (fun h2 => ?_)
    · skip
      refine lv_iconst (v := 0) hx hb dM_advance_25 (by decide) ?_
      refine kw_put (w' := lm G b 0 (σ 0 1) (σ 0 2) u0.1 u0.2.1 u0.2.2 (σ 1) (σ 2) (σ 3) (σ 4) (σ 5) (σ 6) (σ 7) (σ 8) (σ 9) (σ 10) (σ 11) (σ 12) (σ 13) (σ 14) (σ 15) (σ 16) (σ 17) (σ 18) (σ 19) (σ 20) (σ 21) (σ 22)) (v := .int 0) (ty := .int) hx hb hg hin_M tyM tyM_ok nM hown hK hP hD hS 0 rfl rfl 0 (by decide) (hg _ gw_494) (fun _ h => h) rfl (by decide +kernel) rfl rfl (Nat.le_of_ble_eq_true rfl) dM_advance_26 rfl (fun H locs hP hD hS => ?_)
      refine lv_iconst (v := 0) hx hb dM_advance_29 (by decide) ?_
      refine lv_istore_n hx hb dM_advance_30 rfl hl (by decide) rfl (fun ls hl => ?_)
      have hl : lv_has ls 5 [(2, .int 0), (0, .ref (b 0)), (1, .int days)] := hl
      refine lv_iconst (v := 0) hx hb dM_advance_31 (by decide) ?_
      refine lv_istore_n hx hb dM_advance_32 rfl hl (by decide) rfl (fun ls hl => ?_)
      have hl : lv_has ls 5 [(3, .int 0), (2, .int 0), (0, .ref (b 0)), (1, .int days)] := hl
      have loop : ∀ (n : Nat) (nn : Int32) (dd : Int32) (S : KS) (w3 : Int32) (w4 : Int32) (w5 : Int32) (ls : Array Slot) (H : Heap) (locs : List Loc), lok_ad σ days n nn dd S = true → lf_ad σ days n nn dd S = kM_advance σ days → (S 0 0 = 0 ∧ S 0 2 = σ 0 2 ∧ Iv dd S) → lv_has ls 5 [(3, .int dd), (2, .int nn), (0, .ref (b 0)), (1, .int days)] → va_P D vwCl (lm G b (S 0 0) (S 0 1) (S 0 2) w3 w4 w5 (S 1) (S 2) (S 3) (S 4) (S 5) (S 6) (S 7) (S 8) (S 9) (S 10) (S 11) (S 12) (S 13) (S 14) (S 15) (S 16) (S 17) (S 18) (S 19) (S 20) (S 21) (S 22)) H → va_D (va_A (mcells G b (scr σ u0)) s.heap.size) (lm G b (S 0 0) (S 0 1) (S 0 2) w3 w4 w5 (S 1) (S 2) (S 3) (S 4) (S 5) (S 6) (S 7) (S 8) (S 9) (S 10) (S 11) (S 12) (S 13) (S 14) (S 15) (S 16) (S 17) (S 18) (S 19) (S 20) (S 21) (S 22)) → va_S (va_A (mcells G b (scr σ u0)) s.heap.size) s.heap H locs → W p l e (headSpec wgM_advance rm_M_advance).room s m args below meth c H locs 0 0 (MQ below (kx_i D vwCl (gt G) (mcells G b (scr σ u0)) s.heap.size ((kM_advance σ days).1) (fun u => mcells G b (scr ((kM_advance σ days).2) u))) args s 0 0 (va_A (mcells G b (scr σ u0)) s.heap.size)) (F0 m 33 ls []) := by
        intro n
        induction n with
        | zero => intro nn dd S w3 w4 w5 ls H locs hok; exact absurd hok (by unfold lok_ad; decide)
        | succ n ih =>
          intro nn dd S w3 w4 w5 ls H locs hok hk hi hl hP hD hS
          refine lv_iload_n hx hb dM_advance_33 rfl (lv_at hl 0 rfl) ?_
          refine lv_iload_n hx hb dM_advance_34 rfl (lv_at hl 3 rfl) ?_
          refine lv_icmp_ge (tgt := 88) hx hb dM_advance_35 (by decide) (fun h3 => ?_) (fun h3 => ?_)
          · skip
            refine lv_iload_n hx hb dM_advance_88 rfl (lv_at hl 1 rfl) ?_
            have hk9 : kM_advance σ days = (nn, S) := by rw [← hk, lf_ad, if_pos h3]
            exact kx_iret hx hb hr hlocks hK hP hD hS (by rw [hk9]) (u := (w3, w4, w5)) (by rw [hk9] <;> rfl) dM_advance_89
          · skip
            refine lv_aload_n hx hb dM_advance_38 rfl (lv_at hl 2 rfl) ?_
            refine va_get (v := .int (S 0 0)) hx hb hg hin_M hown hK hP 0 rfl rfl 0 (by decide) (hg _ gw_494) (fun _ h => h) rfl dM_advance_39 ?_
            refine lv_if_ne (tgt := 88) hx hb dM_advance_42 (by decide) (fun h => absurd h (fun q => q hi.1)) (fun _ => ?_)
            refine lv_aload_n hx hb dM_advance_45 rfl (lv_at hl 2 rfl) ?_
            refine lv_dup hx hb dM_advance_46 rfl ?_
            refine va_get (v := .int (S 0 1)) hx hb hg hin_M hown hK hP 0 rfl rfl 1 (by decide) (hg _ gw_495) (fun _ h => h) rfl dM_advance_47 ?_
            refine lv_iconst (v := 1) hx hb dM_advance_50 (by decide) ?_
            refine lv_iadd hx hb dM_advance_51 ?_
            refine kw_put (w' := lm G b (S 0 0) ((S 0 1) + 1) (S 0 2) w3 w4 w5 (S 1) (S 2) (S 3) (S 4) (S 5) (S 6) (S 7) (S 8) (S 9) (S 10) (S 11) (S 12) (S 13) (S 14) (S 15) (S 16) (S 17) (S 18) (S 19) (S 20) (S 21) (S 22)) (v := .int ((S 0 1) + 1)) (ty := .int) hx hb hg hin_M tyM tyM_ok nM hown hK hP hD hS 0 rfl rfl 1 (by decide) (hg _ gw_495) (fun _ h => h) rfl (by decide +kernel) rfl rfl (Nat.le_of_ble_eq_true rfl) dM_advance_52 rfl (fun H locs hP hD hS => ?_)
            refine lv_iconst (v := 0) hx hb dM_advance_55 (by decide) ?_
            refine lv_istore hx hb dM_advance_56 hl (by decide) rfl (fun ls hl => ?_)
            have hl : lv_has ls 5 [(4, .int 0), (3, .int dd), (2, .int nn), (0, .ref (b 0)), (1, .int days)] := hl
            refine lv_iload hx hb dM_advance_58 (lv_at hl 0 rfl) ?_
            refine lv_aload_n hx hb dM_advance_60 rfl (lv_at hl 3 rfl) ?_
            refine va_get (v := .int (S 0 2)) hx hb hg hin_M hown hK hP 0 rfl rfl 2 (by decide) (hg _ gw_496) (fun _ h => h) rfl dM_advance_61 ?_
            refine lv_icmp_ge (tgt := 82) hx hb dM_advance_64 (by decide) (fun h4 => ?_) (fun h4 => ?_)
            · skip
              refine lv_iinc (v := dd + 1) hx hb dM_advance_82 hl (k := 1) rfl (by first | rfl | decide) (by decide) rfl (fun ls hl => ?_)
              have hl : lv_has ls 5 [(3, .int (dd + 1)), (4, .int 0), (2, .int nn), (0, .ref (b 0)), (1, .int days)] := hl
              refine lv_goto (tgt := 33) hx hb dM_advance_85 (by decide) ?_
              exact ih nn (dd + 1) (mkM (S 0 0) ((S 0 1) + 1) (S 0 2) (S 0 3) (S 0 4) (S 0 5) (S 1) (S 2) (S 3) (S 4) (S 5) (S 6) (S 7) (S 8) (S 9) (S 10) (S 11) (S 12) (S 13) (S 14) (S 15) (S 16) (S 17) (S 18) (S 19) (S 20) (S 21) (S 22)) (w3 : Int32) (w4 : Int32) (w5 : Int32) _ _ _ (by rw [← hok, lok_ad, if_neg h3, if_pos h4]) (by rw [← hk, lf_ad, if_neg h3, if_pos h4]) (by have q := (hs dd S hi.2.2 hi.2.1 h3).2; rw [kd_day_0 h4] at q; exact ⟨hi.1, hi.2.1, q⟩) (lv_sub hl [0, 2, 3, 4] rfl) hP hD hS
            · skip
              refine lv_iload_n hx hb dM_advance_67 rfl (lv_at hl 2 rfl) ?_
              refine lv_aload_n hx hb dM_advance_68 rfl (lv_at hl 3 rfl) ?_
              refine lv_iload hx hb dM_advance_69 (lv_at hl 0 rfl) ?_
              refine kx_reti0 (va_runV (C := RM) (As := [.int 0]) (rest := [.int nn]) ⟨hx, hb, hml, hown, hg⟩ (c_M_dayOfLoan l D G b (mkM (S 0 0) ((S 0 1) + 1) (S 0 2) (S 0 3) (S 0 4) (S 0 5) (S 1) (S 2) (S 3) (S 4) (S 5) (S 6) (S 7) (S 8) (S 9) (S 10) (S 11) (S 12) (S 13) (S 14) (S 15) (S 16) (S 17) (S 18) (S 19) (S 20) (S 21) (S 22)) (w3, w4, w5) (0 : Int32) _ (by unfold vp_in; decide) (by have o := (hs dd S hi.2.2 hi.2.1 h3).1.1 h4; exact o.1) (by have o := (hs dd S hi.2.2 hi.2.1 h3).1.1 h4; exact o.2)) ⟨kw_cB (n := 1) hg gw_666 gw_2 gw_664 (by decide +kernel) (by decide +kernel) ⟨Nat.le_of_ble_eq_true rfl, Nat.le_of_ble_eq_true rfl⟩ rfl rfl, hg _ gw_665, hg _ gw_753⟩ (kw_preV (q0 := 0) hK hP hD rfl rfl) rfl rfl hl.1 rfl (lv_room (Nat.le_of_ble_eq_true rfl)) dM_advance_71 ⟨Nat.le_of_ble_eq_true rfl, Nat.le_of_ble_eq_true rfl⟩) hP hD hS (fun _ h => Or.inr h) (fun u_5 u_6 u_7 H locs hP hD hS => ?_)
              refine lv_topi (fun r_8 e_9 => ?_)
              replace e_9 := e_9.symm
              obtain ⟨S_10, e_11⟩ : ∃ z : KS, (kM_dayOfLoan (mkM (S 0 0) ((S 0 1) + 1) (S 0 2) (S 0 3) (S 0 4) (S 0 5) (S 1) (S 2) (S 3) (S 4) (S 5) (S 6) (S 7) (S 8) (S 9) (S 10) (S 11) (S 12) (S 13) (S 14) (S 15) (S 16) (S 17) (S 18) (S 19) (S 20) (S 21) (S 22)) (0 : Int32)).2 = z := ⟨_, rfl⟩
              rw [e_11] at hP hD
              have qS_10 : S_10 0 2 = S 0 2 ∧ S_10 0 0 = S 0 0 := by rw [← e_11]; exact ⟨(kx_dl _ _).2.2, (kx_dl _ _).1⟩
              have kS_10 : kd1 S = S_10 := e_11
              refine lv_iadd hx hb dM_advance_74 ?_
              refine lv_istore_n hx hb dM_advance_75 rfl hl (by decide) rfl (fun ls hl => ?_)
              have hl : lv_has ls 5 [(2, .int (nn + r_8)), (4, .int 0), (3, .int dd), (0, .ref (b 0)), (1, .int days)] := hl
              refine lv_iinc (v := 1) hx hb dM_advance_76 hl (k := 1) rfl (by first | rfl | decide) (by decide) rfl (fun ls hl => ?_)
              have hl : lv_has ls 5 [(4, .int 1), (2, .int (nn + r_8)), (3, .int dd), (0, .ref (b 0)), (1, .int days)] := hl
              refine lv_goto (tgt := 58) hx hb dM_advance_79 (by decide) ?_
              refine lv_iload hx hb dM_advance_58 (lv_at hl 0 rfl) ?_
              refine lv_aload_n hx hb dM_advance_60 rfl (lv_at hl 3 rfl) ?_
              refine va_get (v := .int (S_10 0 2)) hx hb hg hin_M hown hK hP 0 rfl rfl 2 (by decide) (hg _ gw_496) (fun _ h => h) rfl dM_advance_61 ?_
              refine lv_icmp_ge (tgt := 82) hx hb dM_advance_64 (by decide) (fun h12 => ?_) (fun h12 => ?_)
              · skip
                refine lv_iinc (v := dd + 1) hx hb dM_advance_82 hl (k := 2) rfl (by first | rfl | decide) (by decide) rfl (fun ls hl => ?_)
                have hl : lv_has ls 5 [(3, .int (dd + 1)), (4, .int 1), (2, .int (nn + r_8)), (0, .ref (b 0)), (1, .int days)] := hl
                refine lv_goto (tgt := 33) hx hb dM_advance_85 (by decide) ?_
                exact ih (nn + r_8) (dd + 1) S_10 (u_5 : Int32) (u_6 : Int32) (u_7 : Int32) _ _ _ (by subst e_9 e_11; rw [← hok, lok_ad, if_neg h3, if_neg h4, if_pos h12]) (by subst e_9 e_11; rw [← hk, lf_ad, if_neg h3, if_neg h4, if_pos h12]) (by have q := (hs dd S hi.2.2 hi.2.1 h3).2; rw [kd_day_1 h4 (by rw [← qS_10.1]; exact h12), kS_10] at q; exact ⟨qS_10.2.trans hi.1, qS_10.1.trans hi.2.1, q⟩) (lv_sub hl [0, 2, 3, 4] rfl) hP hD hS
              · skip
                refine lv_iload_n hx hb dM_advance_67 rfl (lv_at hl 1 rfl) ?_
                refine lv_aload_n hx hb dM_advance_68 rfl (lv_at hl 3 rfl) ?_
                refine lv_iload hx hb dM_advance_69 (lv_at hl 0 rfl) ?_
                refine kx_reti0 (va_runV (C := RM) (As := [.int 1]) (rest := [.int (nn + r_8)]) ⟨hx, hb, hml, hown, hg⟩ (c_M_dayOfLoan l D G b S_10 (u_5, u_6, u_7) (1 : Int32) _ (by unfold vp_in; decide) (by have o := (hs dd S hi.2.2 hi.2.1 h3).1.2.1 (by rw [← qS_10.1]; exact h12); rw [kS_10] at o; exact o.1) (by have o := (hs dd S hi.2.2 hi.2.1 h3).1.2.1 (by rw [← qS_10.1]; exact h12); rw [kS_10] at o; exact o.2)) ⟨kw_cB (n := 1) hg gw_666 gw_2 gw_664 (by decide +kernel) (by decide +kernel) ⟨Nat.le_of_ble_eq_true rfl, Nat.le_of_ble_eq_true rfl⟩ rfl rfl, hg _ gw_665, hg _ gw_753⟩ (kw_preV (q0 := 0) hK hP hD rfl rfl) rfl rfl hl.1 rfl (lv_room (Nat.le_of_ble_eq_true rfl)) dM_advance_71 ⟨Nat.le_of_ble_eq_true rfl, Nat.le_of_ble_eq_true rfl⟩) hP hD hS (fun _ h => Or.inr h) (fun u_13 u_14 u_15 H locs hP hD hS => ?_)
                refine lv_topi (fun r_16 e_17 => ?_)
                replace e_17 := e_17.symm
                obtain ⟨S_18, e_19⟩ : ∃ z : KS, (kM_dayOfLoan S_10 (1 : Int32)).2 = z := ⟨_, rfl⟩
                rw [e_19] at hP hD
                have qS_18 : S_18 0 2 = S 0 2 ∧ S_18 0 0 = S 0 0 := by rw [← e_19]; exact ⟨(kx_dl _ _).2.2.trans qS_10.1, (kx_dl _ _).1.trans qS_10.2⟩
                have kS_18 : kd2 S = S_18 := by unfold kd2; rw [kS_10]; exact e_19
                refine lv_iadd hx hb dM_advance_74 ?_
                refine lv_istore_n hx hb dM_advance_75 rfl hl (by decide) rfl (fun ls hl => ?_)
                have hl : lv_has ls 5 [(2, .int ((nn + r_8) + r_16)), (4, .int 1), (3, .int dd), (0, .ref (b 0)), (1, .int days)] := hl
                refine lv_iinc (v := 2) hx hb dM_advance_76 hl (k := 1) rfl (by first | rfl | decide) (by decide) rfl (fun ls hl => ?_)
                have hl : lv_has ls 5 [(4, .int 2), (2, .int ((nn + r_8) + r_16)), (3, .int dd), (0, .ref (b 0)), (1, .int days)] := hl
                refine lv_goto (tgt := 58) hx hb dM_advance_79 (by decide) ?_
                refine lv_iload hx hb dM_advance_58 (lv_at hl 0 rfl) ?_
                refine lv_aload_n hx hb dM_advance_60 rfl (lv_at hl 3 rfl) ?_
                refine va_get (v := .int (S_18 0 2)) hx hb hg hin_M hown hK hP 0 rfl rfl 2 (by decide) (hg _ gw_496) (fun _ h => h) rfl dM_advance_61 ?_
                refine lv_icmp_ge (tgt := 82) hx hb dM_advance_64 (by decide) (fun h20 => ?_) (fun h20 => ?_)
                · skip
                  refine lv_iinc (v := dd + 1) hx hb dM_advance_82 hl (k := 2) rfl (by first | rfl | decide) (by decide) rfl (fun ls hl => ?_)
                  have hl : lv_has ls 5 [(3, .int (dd + 1)), (4, .int 2), (2, .int ((nn + r_8) + r_16)), (0, .ref (b 0)), (1, .int days)] := hl
                  refine lv_goto (tgt := 33) hx hb dM_advance_85 (by decide) ?_
                  exact ih ((nn + r_8) + r_16) (dd + 1) S_18 (u_13 : Int32) (u_14 : Int32) (u_15 : Int32) _ _ _ (by subst e_9 e_11 e_17 e_19; rw [← hok, lok_ad, if_neg h3, if_neg h4, if_neg h12, if_pos h20]) (by subst e_9 e_11 e_17 e_19; rw [← hk, lf_ad, if_neg h3, if_neg h4, if_neg h12, if_pos h20]) (by have q := (hs dd S hi.2.2 hi.2.1 h3).2; rw [kd_day_2 h4 (by rw [← qS_10.1]; exact h12) (by rw [← qS_18.1]; exact h20), kS_18] at q; exact ⟨qS_18.2.trans hi.1, qS_18.1.trans hi.2.1, q⟩) (lv_sub hl [0, 2, 3, 4] rfl) hP hD hS
                · skip
                  refine lv_iload_n hx hb dM_advance_67 rfl (lv_at hl 1 rfl) ?_
                  refine lv_aload_n hx hb dM_advance_68 rfl (lv_at hl 3 rfl) ?_
                  refine lv_iload hx hb dM_advance_69 (lv_at hl 0 rfl) ?_
                  refine kx_reti0 (va_runV (C := RM) (As := [.int 2]) (rest := [.int ((nn + r_8) + r_16)]) ⟨hx, hb, hml, hown, hg⟩ (c_M_dayOfLoan l D G b S_18 (u_13, u_14, u_15) (2 : Int32) _ (by unfold vp_in; decide) (by have o := (hs dd S hi.2.2 hi.2.1 h3).1.2.2 (by rw [← qS_18.1]; exact h20); rw [kS_18] at o; exact o.1) (by have o := (hs dd S hi.2.2 hi.2.1 h3).1.2.2 (by rw [← qS_18.1]; exact h20); rw [kS_18] at o; exact o.2)) ⟨kw_cB (n := 1) hg gw_666 gw_2 gw_664 (by decide +kernel) (by decide +kernel) ⟨Nat.le_of_ble_eq_true rfl, Nat.le_of_ble_eq_true rfl⟩ rfl rfl, hg _ gw_665, hg _ gw_753⟩ (kw_preV (q0 := 0) hK hP hD rfl rfl) rfl rfl hl.1 rfl (lv_room (Nat.le_of_ble_eq_true rfl)) dM_advance_71 ⟨Nat.le_of_ble_eq_true rfl, Nat.le_of_ble_eq_true rfl⟩) hP hD hS (fun _ h => Or.inr h) (fun u_21 u_22 u_23 H locs hP hD hS => ?_)
                  refine lv_topi (fun r_24 e_25 => ?_)
                  replace e_25 := e_25.symm
                  obtain ⟨S_26, e_27⟩ : ∃ z : KS, (kM_dayOfLoan S_18 (2 : Int32)).2 = z := ⟨_, rfl⟩
                  rw [e_27] at hP hD
                  have qS_26 : S_26 0 2 = S 0 2 ∧ S_26 0 0 = S 0 0 := by rw [← e_27]; exact ⟨(kx_dl _ _).2.2.trans qS_18.1, (kx_dl _ _).1.trans qS_18.2⟩
                  have kS_26 : kd3 S = S_26 := by unfold kd3; rw [kS_18]; exact e_27
                  refine lv_iadd hx hb dM_advance_74 ?_
                  refine lv_istore_n hx hb dM_advance_75 rfl hl (by decide) rfl (fun ls hl => ?_)
                  have hl : lv_has ls 5 [(2, .int (((nn + r_8) + r_16) + r_24)), (4, .int 2), (3, .int dd), (0, .ref (b 0)), (1, .int days)] := hl
                  refine lv_iinc (v := 3) hx hb dM_advance_76 hl (k := 1) rfl (by first | rfl | decide) (by decide) rfl (fun ls hl => ?_)
                  have hl : lv_has ls 5 [(4, .int 3), (2, .int (((nn + r_8) + r_16) + r_24)), (3, .int dd), (0, .ref (b 0)), (1, .int days)] := hl
                  refine lv_goto (tgt := 58) hx hb dM_advance_79 (by decide) ?_
                  refine lv_iload hx hb dM_advance_58 (lv_at hl 0 rfl) ?_
                  refine lv_aload_n hx hb dM_advance_60 rfl (lv_at hl 3 rfl) ?_
                  refine va_get (v := .int (S_26 0 2)) hx hb hg hin_M hown hK hP 0 rfl rfl 2 (by decide) (hg _ gw_496) (fun _ h => h) rfl dM_advance_61 ?_
                  refine lv_icmp_ge (tgt := 82) hx hb dM_advance_64 (by decide) (fun _ => ?_) (fun h => absurd h (not_not_intro (by rw [qS_26.1, hi.2.1, hnl]; exact nI_le (a := nl) (b := 3) hn3 (by decide))))
                  refine lv_iinc (v := dd + 1) hx hb dM_advance_82 hl (k := 2) rfl (by first | rfl | decide) (by decide) rfl (fun ls hl => ?_)
                  have hl : lv_has ls 5 [(3, .int (dd + 1)), (4, .int 3), (2, .int (((nn + r_8) + r_16) + r_24)), (0, .ref (b 0)), (1, .int days)] := hl
                  refine lv_goto (tgt := 33) hx hb dM_advance_85 (by decide) ?_
                  exact ih (((nn + r_8) + r_16) + r_24) (dd + 1) S_26 (u_21 : Int32) (u_22 : Int32) (u_23 : Int32) _ _ _ (by subst e_9 e_11 e_17 e_19 e_25 e_27; rw [← hok, lok_ad, if_neg h3, if_neg h4, if_neg h12, if_neg h20]) (by subst e_9 e_11 e_17 e_19 e_25 e_27; rw [← hk, lf_ad, if_neg h3, if_neg h4, if_neg h12, if_neg h20]) (by have q := (hs dd S hi.2.2 hi.2.1 h3).2; rw [kd_day_3 h4 (by rw [← qS_10.1]; exact h12) (by rw [← qS_18.1]; exact h20), kS_26] at q; exact ⟨qS_26.2.trans hi.1, qS_26.1.trans hi.2.1, q⟩) (lv_sub hl [0, 2, 3, 4] rfl) hP hD hS
      exact loop (days.toNatClampNeg + 1) (0 : Int32) (0 : Int32) (mkM 0 (σ 0 1) (σ 0 2) (σ 0 3) (σ 0 4) (σ 0 5) (σ 1) (σ 2) (σ 3) (σ 4) (σ 5) (σ 6) (σ 7) (σ 8) (σ 9) (σ 10) (σ 11) (σ 12) (σ 13) (σ 14) (σ 15) (σ 16) (σ 17) (σ 18) (σ 19) (σ 20) (σ 21) (σ 22)) (u0.1 : Int32) (u0.2.1 : Int32) (u0.2.2 : Int32) _ _ _ (lok_ad_ok σ days _ _ _ _ (by rw [show (0 : Int32).toInt = 0 from by decide]; show days.toInt - 0 ≤ ((days.toInt.toNat : Nat) : Int); omega)) (by unfold kM_advance; rw [if_pos h1, if_pos h2]) ⟨rfl, rfl, h0 h1 h2⟩ (lv_sub hl [0, 1, 2, 3] rfl) hP hD hS
    · skip
      refine lv_iconst (v := 2) hx hb dM_advance_21 (by decide) ?_
      refine lv_goto (tgt := 26) hx hb dM_advance_22 (by decide) ?_
      refine kw_put (w' := lm G b 2 (σ 0 1) (σ 0 2) u0.1 u0.2.1 u0.2.2 (σ 1) (σ 2) (σ 3) (σ 4) (σ 5) (σ 6) (σ 7) (σ 8) (σ 9) (σ 10) (σ 11) (σ 12) (σ 13) (σ 14) (σ 15) (σ 16) (σ 17) (σ 18) (σ 19) (σ 20) (σ 21) (σ 22)) (v := .int 2) (ty := .int) hx hb hg hin_M tyM tyM_ok nM hown hK hP hD hS 0 rfl rfl 0 (by decide) (hg _ gw_494) (fun _ h => h) rfl (by decide +kernel) rfl rfl (Nat.le_of_ble_eq_true rfl) dM_advance_26 rfl (fun H locs hP hD hS => ?_)
      refine lv_iconst (v := 0) hx hb dM_advance_29 (by decide) ?_
      refine lv_istore_n hx hb dM_advance_30 rfl hl (by decide) rfl (fun ls hl => ?_)
      have hl : lv_has ls 5 [(2, .int 0), (0, .ref (b 0)), (1, .int days)] := hl
      refine lv_iconst (v := 0) hx hb dM_advance_31 (by decide) ?_
      refine lv_istore_n hx hb dM_advance_32 rfl hl (by decide) rfl (fun ls hl => ?_)
      have hl : lv_has ls 5 [(3, .int 0), (2, .int 0), (0, .ref (b 0)), (1, .int days)] := hl
      refine lv_iload_n hx hb dM_advance_33 rfl (lv_at hl 0 rfl) ?_
      refine lv_iload_n hx hb dM_advance_34 rfl (lv_at hl 3 rfl) ?_
      refine lv_icmp_ge (tgt := 88) hx hb dM_advance_35 (by decide) (fun h28 => ?_) (fun h28 => ?_)
      · skip
        refine lv_iload_n hx hb dM_advance_88 rfl (lv_at hl 1 rfl) ?_
        have hk9 : kM_advance σ days = (0, mkM 2 (σ 0 1) (σ 0 2) (σ 0 3) (σ 0 4) (σ 0 5) (σ 1) (σ 2) (σ 3) (σ 4) (σ 5) (σ 6) (σ 7) (σ 8) (σ 9) (σ 10) (σ 11) (σ 12) (σ 13) (σ 14) (σ 15) (σ 16) (σ 17) (σ 18) (σ 19) (σ 20) (σ 21) (σ 22)) := by unfold kM_advance; rw [if_pos h1, if_neg h2, if_pos h28]
        exact kx_iret hx hb hr hlocks hK hP hD hS (by rw [hk9]) (u := (u0.1, u0.2.1, u0.2.2)) (by rw [hk9] <;> rfl) dM_advance_89
      · skip
        refine lv_aload_n hx hb dM_advance_38 rfl (lv_at hl 2 rfl) ?_
        refine va_get (v := .int 2) hx hb hg hin_M hown hK hP 0 rfl rfl 0 (by decide) (hg _ gw_494) (fun _ h => h) rfl dM_advance_39 ?_
        refine lv_if_ne (tgt := 88) hx hb dM_advance_42 (by decide) (fun _ => ?_) (fun h => absurd h (by decide))
        refine lv_iload_n hx hb dM_advance_88 rfl (lv_at hl 1 rfl) ?_
        have hk9 : kM_advance σ days = (0, mkM 2 (σ 0 1) (σ 0 2) (σ 0 3) (σ 0 4) (σ 0 5) (σ 1) (σ 2) (σ 3) (σ 4) (σ 5) (σ 6) (σ 7) (σ 8) (σ 9) (σ 10) (σ 11) (σ 12) (σ 13) (σ 14) (σ 15) (σ 16) (σ 17) (σ 18) (σ 19) (σ 20) (σ 21) (σ 22)) := by unfold kM_advance; rw [if_pos h1, if_neg h2, if_neg h28]
        exact kx_iret hx hb hr hlocks hK hP hD hS (by rw [hk9]) (u := (u0.1, u0.2.1, u0.2.2)) (by rw [hk9] <;> rfl) dM_advance_89
  · skip
    refine lv_iconst (v := 1) hx hb dM_advance_5 (by decide) ?_
    refine lv_goto (tgt := 26) hx hb dM_advance_6 (by decide) ?_
    refine kw_put (w' := lm G b 1 (σ 0 1) (σ 0 2) u0.1 u0.2.1 u0.2.2 (σ 1) (σ 2) (σ 3) (σ 4) (σ 5) (σ 6) (σ 7) (σ 8) (σ 9) (σ 10) (σ 11) (σ 12) (σ 13) (σ 14) (σ 15) (σ 16) (σ 17) (σ 18) (σ 19) (σ 20) (σ 21) (σ 22)) (v := .int 1) (ty := .int) hx hb hg hin_M tyM tyM_ok nM hown hK hP hD hS 0 rfl rfl 0 (by decide) (hg _ gw_494) (fun _ h => h) rfl (by decide +kernel) rfl rfl (Nat.le_of_ble_eq_true rfl) dM_advance_26 rfl (fun H locs hP hD hS => ?_)
    refine lv_iconst (v := 0) hx hb dM_advance_29 (by decide) ?_
    refine lv_istore_n hx hb dM_advance_30 rfl hl (by decide) rfl (fun ls hl => ?_)
    have hl : lv_has ls 5 [(2, .int 0), (0, .ref (b 0)), (1, .int days)] := hl
    refine lv_iconst (v := 0) hx hb dM_advance_31 (by decide) ?_
    refine lv_istore_n hx hb dM_advance_32 rfl hl (by decide) rfl (fun ls hl => ?_)
    have hl : lv_has ls 5 [(3, .int 0), (2, .int 0), (0, .ref (b 0)), (1, .int days)] := hl
    refine lv_iload_n hx hb dM_advance_33 rfl (lv_at hl 0 rfl) ?_
    refine lv_iload_n hx hb dM_advance_34 rfl (lv_at hl 3 rfl) ?_
    refine lv_icmp_ge (tgt := 88) hx hb dM_advance_35 (by decide) (fun h29 => ?_) (fun h29 => ?_)
    · skip
      refine lv_iload_n hx hb dM_advance_88 rfl (lv_at hl 1 rfl) ?_
      have hk9 : kM_advance σ days = (0, mkM 1 (σ 0 1) (σ 0 2) (σ 0 3) (σ 0 4) (σ 0 5) (σ 1) (σ 2) (σ 3) (σ 4) (σ 5) (σ 6) (σ 7) (σ 8) (σ 9) (σ 10) (σ 11) (σ 12) (σ 13) (σ 14) (σ 15) (σ 16) (σ 17) (σ 18) (σ 19) (σ 20) (σ 21) (σ 22)) := by unfold kM_advance; rw [if_neg h1, if_pos h29]
      exact kx_iret hx hb hr hlocks hK hP hD hS (by rw [hk9]) (u := (u0.1, u0.2.1, u0.2.2)) (by rw [hk9] <;> rfl) dM_advance_89
    · skip
      refine lv_aload_n hx hb dM_advance_38 rfl (lv_at hl 2 rfl) ?_
      refine va_get (v := .int 1) hx hb hg hin_M hown hK hP 0 rfl rfl 0 (by decide) (hg _ gw_494) (fun _ h => h) rfl dM_advance_39 ?_
      refine lv_if_ne (tgt := 88) hx hb dM_advance_42 (by decide) (fun _ => ?_) (fun h => absurd h (by decide))
      refine lv_iload_n hx hb dM_advance_88 rfl (lv_at hl 1 rfl) ?_
      have hk9 : kM_advance σ days = (0, mkM 1 (σ 0 1) (σ 0 2) (σ 0 3) (σ 0 4) (σ 0 5) (σ 1) (σ 2) (σ 3) (σ 4) (σ 5) (σ 6) (σ 7) (σ 8) (σ 9) (σ 10) (σ 11) (σ 12) (σ 13) (σ 14) (σ 15) (σ 16) (σ 17) (σ 18) (σ 19) (σ 20) (σ 21) (σ 22)) := by unfold kM_advance; rw [if_neg h1, if_neg h29]
      exact kx_iret hx hb hr hlocks hK hP hD hS (by rw [hk9]) (u := (u0.1, u0.2.1, u0.2.2)) (by rw [hk9] <;> rfl) dM_advance_89
