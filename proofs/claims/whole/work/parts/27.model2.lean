/-! the reference: interest, levels -/
theorem kx_ix4 {ln k : Int32} (h : vp_in ln 3) (hk : 0 ≤ k.toInt ∧ k.toInt < 4) : vp_in (4 * ln + k) 12 := by
  obtain ⟨j, hj, rfl⟩ := vp_in_of h (by decide)
  obtain ⟨n, hn, rfl⟩ : ∃ n : Nat, n < 4 ∧ k = nI n := by
    obtain ⟨n, hn, e⟩ := vp_in_of (x := k) (n := 4) (vp_in_iff.mpr hk) (by decide)
    exact ⟨n, hn, e⟩
  rw [show (4 : Int32) * nI j = nI (4 * j) from pk_mul 4 j, nI_add]
  exact vp_in_nI (by omega) (by decide)
theorem kx_ix6 {ln k : Int32} (h : vp_in ln 3) (hk : 0 ≤ k.toInt ∧ k.toInt < 6) : vp_in (6 * ln + k) 18 := by
  obtain ⟨j, hj, rfl⟩ := vp_in_of h (by decide)
  obtain ⟨n, hn, rfl⟩ : ∃ n : Nat, n < 6 ∧ k = nI n := by
    obtain ⟨n, hn, e⟩ := vp_in_of (x := k) (n := 6) (vp_in_iff.mpr hk) (by decide)
    exact ⟨n, hn, e⟩
  rw [show (6 : Int32) * nI j = nI (6 * j) from pk_mul 6 j, nI_add]
  exact vp_in_nI (by omega) (by decide)
theorem kx_ix60 {ln k : Int32} (h : vp_in ln 3) (hk : 0 ≤ k.toInt ∧ k.toInt < 60) : vp_in (60 * ln + k) 180 := by
  obtain ⟨j, hj, rfl⟩ := vp_in_of h (by decide)
  obtain ⟨n, hn, rfl⟩ : ∃ n : Nat, n < 60 ∧ k = nI n := by
    obtain ⟨n, hn, e⟩ := vp_in_of (x := k) (n := 60) (vp_in_iff.mpr hk) (by decide)
    exact ⟨n, hn, e⟩
  rw [show (60 : Int32) * nI j = nI (60 * j) from pk_mul 60 j, nI_add]
  exact vp_in_nI (by omega) (by decide)
theorem kx_ix40 {ln : Int32} (h : vp_in ln 3) : vp_in (4 * ln) 12 := by
  obtain ⟨j, hj, rfl⟩ := vp_in_of h (by decide)
  rw [show (4 : Int32) * nI j = nI (4 * j) from pk_mul 4 j]
  exact vp_in_nI (by omega) (by decide)
def kM_rounded (top : Int64) (bot : Int64) (how : Int32) : Int64 := if how = (1 : Int32) then (if (lg_cmp (top - ((top / bot) * bot)) 0) ≤ (0 : Int32) then (top / bot) else ((top / bot) + 1)) else (if how = (2 : Int32) then (if (lg_cmp (2 * (top - ((top / bot) * bot))) bot) < (0 : Int32) then (top / bot) else ((top / bot) + 1)) else (if how = (3 : Int32) then (if (0 : Int32) < (lg_cmp (2 * (top - ((top / bot) * bot))) bot) then ((top / bot) + 1) else (if (lg_cmp (2 * (top - ((top / bot) * bot))) bot) = (0 : Int32) then (if (lg_cmp ((top / bot) - (top / bot) / 2 * 2) 1) = (0 : Int32) then ((top / bot) + 1) else (top / bot)) else (top / bot))) else (top / bot)))
abbrev wgM_rounded : List Cond := .code yM_rounded cM_rounded 10 (some .long) :: GW
abbrev rm_M_rounded : Room := { frames := 0, cells := 0, slots := 0, locals := 0 }
set_option maxRecDepth 100000 in
set_option maxHeartbeats 4000000 in
theorem c_M_rounded (l : Launch) (top : Int64) (bot : Int64) (how : Int32) (hne : ¬ bot = 0) : Met l yM_rounded wgM_rounded rm_M_rounded (kp_Pc [.long top, .long bot, .int how]) (vp_Sl (fun x => x = (kM_rounded top bot how))) 0 0 (fun _ => False) := by
  refine Met.ofW (cc := cM_rounded) (maxL := 10) (ret := (some .long)) (by decide) rfl ?_
  intro p e s m args below meth c s₁ B hml hv
  have hx := B.exec
  have hb := B.bytes
  have hr := B.returns
  have hts := atoms_spec (ws := wgM_rounded) B.pre
  have hg : ∀ w ∈ GW, w.before args s = true := fun w h => hts w (List.mem_cons_of_mem _ h)
  have hown : s.vm.findClass RM = some m.cls := findClass_of_methodNamed B.named
  have hlocks := B.notSynchronized
  refine kw_entry [.long top, .long bot, .int how] hv (Nat.le_of_ble_eq_true rfl) (fun ls hl => ?_)
  have hl : lv_has ls 10 [(0, .long top), (2, .long bot), (4, .int how)] := hl
  refine lv_lload_n hx hb dM_rounded_0 rfl (lv_at hl 0 rfl) ?_
  refine lv_lload_n hx hb dM_rounded_1 rfl (lv_at hl 1 rfl) ?_
  refine lv_ldiv hx hb dM_rounded_2 hne ?_
  refine lv_lstore hx hb dM_rounded_3 hl (by decide) rfl (fun ls hl => ?_)
  have hl : lv_has ls 10 [(5, .long (top / bot)), (0, .long top), (2, .long bot), (4, .int how)] := hl
  refine lv_lload_n hx hb dM_rounded_5 rfl (lv_at hl 1 rfl) ?_
  refine lv_lload hx hb dM_rounded_6 (lv_at hl 0 rfl) ?_
  refine lv_lload_n hx hb dM_rounded_8 rfl (lv_at hl 2 rfl) ?_
  refine lv_lmul hx hb dM_rounded_9 ?_
  refine lv_lsub hx hb dM_rounded_10 ?_
  refine lv_lstore hx hb dM_rounded_11 hl (by decide) rfl (fun ls hl => ?_)
  have hl : lv_has ls 10 [(7, .long (top - ((top / bot) * bot))), (5, .long (top / bot)), (0, .long top), (2, .long bot), (4, .int how)] := hl
  refine lv_iload hx hb dM_rounded_13 (lv_at hl 4 rfl) ?_
  refine lv_iconst (v := 1) hx hb dM_rounded_15 (by decide) ?_
  refine lv_icmp_ne (tgt := 34) hx hb dM_rounded_16 (by decide) (fun h1 => ?_) (fun h1 => ?_)
  · skip
    refine lv_iload hx hb dM_rounded_34 (lv_at hl 4 rfl) ?_
    refine lv_iconst (v := 2) hx hb dM_rounded_36 (by decide) ?_
    refine lv_icmp_ne (tgt := 59) hx hb dM_rounded_37 (by decide) (fun h2 => ?_) (fun h2 => ?_)
    · skip
      refine lv_iload hx hb dM_rounded_59 (lv_at hl 4 rfl) ?_
      refine lv_iconst (v := 3) hx hb dM_rounded_61 (by decide) ?_
      refine lv_icmp_ne (tgt := 102) hx hb dM_rounded_62 (by decide) (fun h3 => ?_) (fun h3 => ?_)
      · skip
        refine lv_iconst (v := 0) hx hb dM_rounded_102 (by decide) ?_
        refine lv_istore hx hb dM_rounded_103 hl (by decide) rfl (fun ls hl => ?_)
        have hl : lv_has ls 10 [(9, .int 0), (7, .long (top - ((top / bot) * bot))), (5, .long (top / bot)), (0, .long top), (2, .long bot), (4, .int how)] := hl
        refine lv_iload hx hb dM_rounded_105 (lv_at hl 0 rfl) ?_
        refine lv_if_eq (tgt := 117) hx hb dM_rounded_107 (by decide) (fun _ => ?_) (fun h => absurd h (by decide))
        refine lv_lload hx hb dM_rounded_117 (lv_at hl 2 rfl) ?_
        have hk9 : kM_rounded top bot how = top / bot := by unfold kM_rounded; rw [if_neg h1, if_neg h2, if_neg h3]
        exact kp_lret hx hb hr hlocks hk9.symm dM_rounded_119
      · skip
        refine lv_ldc2 (v := 2) hx hb hown (hg _ gw_622) dM_rounded_65 ?_
        refine lv_lload hx hb dM_rounded_68 (lv_at hl 0 rfl) ?_
        refine lv_lmul hx hb dM_rounded_70 ?_
        refine lv_lload_n hx hb dM_rounded_71 rfl (lv_at hl 3 rfl) ?_
        refine W.lcmp hx hb dM_rounded_72 ?_
        refine lv_if_gt (tgt := 98) hx hb dM_rounded_73 (by decide) (fun h4 => ?_) (fun h4 => ?_)
        · skip
          refine lv_iconst (v := 1) hx hb dM_rounded_98 (by decide) ?_
          refine lv_goto (tgt := 103) hx hb dM_rounded_99 (by decide) ?_
          refine lv_istore hx hb dM_rounded_103 hl (by decide) rfl (fun ls hl => ?_)
          have hl : lv_has ls 10 [(9, .int 1), (7, .long (top - ((top / bot) * bot))), (5, .long (top / bot)), (0, .long top), (2, .long bot), (4, .int how)] := hl
          refine lv_iload hx hb dM_rounded_105 (lv_at hl 0 rfl) ?_
          refine lv_if_eq (tgt := 117) hx hb dM_rounded_107 (by decide) (fun h => absurd h (by decide)) (fun _ => ?_)
          refine lv_lload hx hb dM_rounded_110 (lv_at hl 2 rfl) ?_
          refine lv_lconst (v := 1) hx hb dM_rounded_112 (by decide) ?_
          refine lv_ladd hx hb dM_rounded_113 ?_
          refine lv_goto (tgt := 119) hx hb dM_rounded_114 (by decide) ?_
          have hk9 : kM_rounded top bot how = (top / bot) + 1 := by unfold kM_rounded; rw [if_neg h1, if_neg h2, if_pos h3, if_pos h4]
          exact kp_lret hx hb hr hlocks hk9.symm dM_rounded_119
        · skip
          refine lv_ldc2 (v := 2) hx hb hown (hg _ gw_622) dM_rounded_76 ?_
          refine lv_lload hx hb dM_rounded_79 (lv_at hl 0 rfl) ?_
          refine lv_lmul hx hb dM_rounded_81 ?_
          refine lv_lload_n hx hb dM_rounded_82 rfl (lv_at hl 3 rfl) ?_
          refine W.lcmp hx hb dM_rounded_83 ?_
          refine lv_if_ne (tgt := 102) hx hb dM_rounded_84 (by decide) (fun h5 => ?_) (fun h5 => ?_)
          · skip
            refine lv_iconst (v := 0) hx hb dM_rounded_102 (by decide) ?_
            refine lv_istore hx hb dM_rounded_103 hl (by decide) rfl (fun ls hl => ?_)
            have hl : lv_has ls 10 [(9, .int 0), (7, .long (top - ((top / bot) * bot))), (5, .long (top / bot)), (0, .long top), (2, .long bot), (4, .int how)] := hl
            refine lv_iload hx hb dM_rounded_105 (lv_at hl 0 rfl) ?_
            refine lv_if_eq (tgt := 117) hx hb dM_rounded_107 (by decide) (fun _ => ?_) (fun h => absurd h (by decide))
            refine lv_lload hx hb dM_rounded_117 (lv_at hl 2 rfl) ?_
            have hk9 : kM_rounded top bot how = top / bot := by unfold kM_rounded; rw [if_neg h1, if_neg h2, if_pos h3, if_neg h4, if_neg h5]
            exact kp_lret hx hb hr hlocks hk9.symm dM_rounded_119
          · skip
            refine lv_lload hx hb dM_rounded_87 (lv_at hl 1 rfl) ?_
            refine lv_ldc2 (v := 2) hx hb hown (hg _ gw_622) dM_rounded_89 ?_
            refine lv_lrem hx hb dM_rounded_92 (by decide) ?_
            refine lv_lconst (v := 1) hx hb dM_rounded_93 (by decide) ?_
            refine W.lcmp hx hb dM_rounded_94 ?_
            refine lv_if_ne (tgt := 102) hx hb dM_rounded_95 (by decide) (fun h6 => ?_) (fun h6 => ?_)
            · skip
              refine lv_iconst (v := 0) hx hb dM_rounded_102 (by decide) ?_
              refine lv_istore hx hb dM_rounded_103 hl (by decide) rfl (fun ls hl => ?_)
              have hl : lv_has ls 10 [(9, .int 0), (7, .long (top - ((top / bot) * bot))), (5, .long (top / bot)), (0, .long top), (2, .long bot), (4, .int how)] := hl
              refine lv_iload hx hb dM_rounded_105 (lv_at hl 0 rfl) ?_
              refine lv_if_eq (tgt := 117) hx hb dM_rounded_107 (by decide) (fun _ => ?_) (fun h => absurd h (by decide))
              refine lv_lload hx hb dM_rounded_117 (lv_at hl 2 rfl) ?_
              have hk9 : kM_rounded top bot how = top / bot := by unfold kM_rounded; rw [if_neg h1, if_neg h2, if_pos h3, if_neg h4, if_pos h5, if_neg h6]
              exact kp_lret hx hb hr hlocks hk9.symm dM_rounded_119
            · skip
              refine lv_iconst (v := 1) hx hb dM_rounded_98 (by decide) ?_
              refine lv_goto (tgt := 103) hx hb dM_rounded_99 (by decide) ?_
              refine lv_istore hx hb dM_rounded_103 hl (by decide) rfl (fun ls hl => ?_)
              have hl : lv_has ls 10 [(9, .int 1), (7, .long (top - ((top / bot) * bot))), (5, .long (top / bot)), (0, .long top), (2, .long bot), (4, .int how)] := hl
              refine lv_iload hx hb dM_rounded_105 (lv_at hl 0 rfl) ?_
              refine lv_if_eq (tgt := 117) hx hb dM_rounded_107 (by decide) (fun h => absurd h (by decide)) (fun _ => ?_)
              refine lv_lload hx hb dM_rounded_110 (lv_at hl 2 rfl) ?_
              refine lv_lconst (v := 1) hx hb dM_rounded_112 (by decide) ?_
              refine lv_ladd hx hb dM_rounded_113 ?_
              refine lv_goto (tgt := 119) hx hb dM_rounded_114 (by decide) ?_
              have hk9 : kM_rounded top bot how = (top / bot) + 1 := by unfold kM_rounded; rw [if_neg h1, if_neg h2, if_pos h3, if_neg h4, if_pos h5, if_pos h6]
              exact kp_lret hx hb hr hlocks hk9.symm dM_rounded_119
    · skip
      refine lv_ldc2 (v := 2) hx hb hown (hg _ gw_622) dM_rounded_40 ?_
      refine lv_lload hx hb dM_rounded_43 (lv_at hl 0 rfl) ?_
      refine lv_lmul hx hb dM_rounded_45 ?_
      refine lv_lload_n hx hb dM_rounded_46 rfl (lv_at hl 3 rfl) ?_
      refine W.lcmp hx hb dM_rounded_47 ?_
      refine lv_if_lt (tgt := 55) hx hb dM_rounded_48 (by decide) (fun h7 => ?_) (fun h7 => ?_)
      · skip
        refine lv_iconst (v := 0) hx hb dM_rounded_55 (by decide) ?_
        refine lv_goto (tgt := 103) hx hb dM_rounded_56 (by decide) ?_
        refine lv_istore hx hb dM_rounded_103 hl (by decide) rfl (fun ls hl => ?_)
        have hl : lv_has ls 10 [(9, .int 0), (7, .long (top - ((top / bot) * bot))), (5, .long (top / bot)), (0, .long top), (2, .long bot), (4, .int how)] := hl
        refine lv_iload hx hb dM_rounded_105 (lv_at hl 0 rfl) ?_
        refine lv_if_eq (tgt := 117) hx hb dM_rounded_107 (by decide) (fun _ => ?_) (fun h => absurd h (by decide))
        refine lv_lload hx hb dM_rounded_117 (lv_at hl 2 rfl) ?_
        have hk9 : kM_rounded top bot how = top / bot := by unfold kM_rounded; rw [if_neg h1, if_pos h2, if_pos h7]
        exact kp_lret hx hb hr hlocks hk9.symm dM_rounded_119
      · skip
        refine lv_iconst (v := 1) hx hb dM_rounded_51 (by decide) ?_
        refine lv_goto (tgt := 103) hx hb dM_rounded_52 (by decide) ?_
        refine lv_istore hx hb dM_rounded_103 hl (by decide) rfl (fun ls hl => ?_)
        have hl : lv_has ls 10 [(9, .int 1), (7, .long (top - ((top / bot) * bot))), (5, .long (top / bot)), (0, .long top), (2, .long bot), (4, .int how)] := hl
        refine lv_iload hx hb dM_rounded_105 (lv_at hl 0 rfl) ?_
        refine lv_if_eq (tgt := 117) hx hb dM_rounded_107 (by decide) (fun h => absurd h (by decide)) (fun _ => ?_)
        refine lv_lload hx hb dM_rounded_110 (lv_at hl 2 rfl) ?_
        refine lv_lconst (v := 1) hx hb dM_rounded_112 (by decide) ?_
        refine lv_ladd hx hb dM_rounded_113 ?_
        refine lv_goto (tgt := 119) hx hb dM_rounded_114 (by decide) ?_
        have hk9 : kM_rounded top bot how = (top / bot) + 1 := by unfold kM_rounded; rw [if_neg h1, if_pos h2, if_neg h7]
        exact kp_lret hx hb hr hlocks hk9.symm dM_rounded_119
  · skip
    refine lv_lload hx hb dM_rounded_19 (lv_at hl 0 rfl) ?_
    refine lv_lconst (v := 0) hx hb dM_rounded_21 (by decide) ?_
    refine W.lcmp hx hb dM_rounded_22 ?_
    refine lv_if_le (tgt := 30) hx hb dM_rounded_23 (by decide) (fun h8 => ?_) (fun h8 => ?_)
    · skip
      refine lv_iconst (v := 0) hx hb dM_rounded_30 (by decide) ?_
      refine lv_goto (tgt := 103) hx hb dM_rounded_31 (by decide) ?_
      refine lv_istore hx hb dM_rounded_103 hl (by decide) rfl (fun ls hl => ?_)
      have hl : lv_has ls 10 [(9, .int 0), (7, .long (top - ((top / bot) * bot))), (5, .long (top / bot)), (0, .long top), (2, .long bot), (4, .int how)] := hl
      refine lv_iload hx hb dM_rounded_105 (lv_at hl 0 rfl) ?_
      refine lv_if_eq (tgt := 117) hx hb dM_rounded_107 (by decide) (fun _ => ?_) (fun h => absurd h (by decide))
      refine lv_lload hx hb dM_rounded_117 (lv_at hl 2 rfl) ?_
      have hk9 : kM_rounded top bot how = top / bot := by unfold kM_rounded; rw [if_pos h1, if_pos h8]
      exact kp_lret hx hb hr hlocks hk9.symm dM_rounded_119
    · skip
      refine lv_iconst (v := 1) hx hb dM_rounded_26 (by decide) ?_
      refine lv_goto (tgt := 103) hx hb dM_rounded_27 (by decide) ?_
      refine lv_istore hx hb dM_rounded_103 hl (by decide) rfl (fun ls hl => ?_)
      have hl : lv_has ls 10 [(9, .int 1), (7, .long (top - ((top / bot) * bot))), (5, .long (top / bot)), (0, .long top), (2, .long bot), (4, .int how)] := hl
      refine lv_iload hx hb dM_rounded_105 (lv_at hl 0 rfl) ?_
      refine lv_if_eq (tgt := 117) hx hb dM_rounded_107 (by decide) (fun h => absurd h (by decide)) (fun _ => ?_)
      refine lv_lload hx hb dM_rounded_110 (lv_at hl 2 rfl) ?_
      refine lv_lconst (v := 1) hx hb dM_rounded_112 (by decide) ?_
      refine lv_ladd hx hb dM_rounded_113 ?_
      refine lv_goto (tgt := 119) hx hb dM_rounded_114 (by decide) ?_
      have hk9 : kM_rounded top bot how = (top / bot) + 1 := by unfold kM_rounded; rw [if_pos h1, if_neg h8]
      exact kp_lret hx hb hr hlocks hk9.symm dM_rounded_119
theorem kx_under (how : Int32) : ¬ (100000 : Int64) * kM_under how = 0 := by
  unfold kM_under
  repeat' split
  all_goals decide
def lf_sp (how : Int32) (x : Int32) (y : Int32) : Nat → Int64 → Int32 → Int32 → Int64
  | 0, _, _, _ => 0
  | n + 1, sum, begin, yy => if y ≤ begin then sum else (if begin ≤ x then (if y ≤ (begin + (kM_daysOf yy)) then (if y ≤ x then (lf_sp how x y n sum (begin + (kM_daysOf yy)) (yy + 1)) else (if (kM_daysOf yy) = (366 : Int32) then (lf_sp how x y n (sum + (((y - x).toInt64) * 365)) (begin + (kM_daysOf yy)) (yy + 1)) else (lf_sp how x y n (sum + (((y - x).toInt64) * 366)) (begin + (kM_daysOf yy)) (yy + 1)))) else (if (begin + (kM_daysOf yy)) ≤ x then (lf_sp how x y n sum (begin + (kM_daysOf yy)) (yy + 1)) else (if (kM_daysOf yy) = (366 : Int32) then (lf_sp how x y n (sum + ((((begin + (kM_daysOf yy)) - x).toInt64) * 365)) (begin + (kM_daysOf yy)) (yy + 1)) else (lf_sp how x y n (sum + ((((begin + (kM_daysOf yy)) - x).toInt64) * 366)) (begin + (kM_daysOf yy)) (yy + 1))))) else (if y ≤ (begin + (kM_daysOf yy)) then (if y ≤ begin then (lf_sp how x y n sum (begin + (kM_daysOf yy)) (yy + 1)) else (if (kM_daysOf yy) = (366 : Int32) then (lf_sp how x y n (sum + (((y - begin).toInt64) * 365)) (begin + (kM_daysOf yy)) (yy + 1)) else (lf_sp how x y n (sum + (((y - begin).toInt64) * 366)) (begin + (kM_daysOf yy)) (yy + 1)))) else (if (begin + (kM_daysOf yy)) ≤ begin then (lf_sp how x y n sum (begin + (kM_daysOf yy)) (yy + 1)) else (if (kM_daysOf yy) = (366 : Int32) then (lf_sp how x y n (sum + ((((begin + (kM_daysOf yy)) - begin).toInt64) * 365)) (begin + (kM_daysOf yy)) (yy + 1)) else (lf_sp how x y n (sum + ((((begin + (kM_daysOf yy)) - begin).toInt64) * 366)) (begin + (kM_daysOf yy)) (yy + 1))))))
def lok_sp (how : Int32) (x : Int32) (y : Int32) : Nat → Int64 → Int32 → Int32 → Bool
  | 0, _, _, _ => false
  | n + 1, sum, begin, yy => if y ≤ begin then true else (if begin ≤ x then (if y ≤ (begin + (kM_daysOf yy)) then (if y ≤ x then (lok_sp how x y n sum (begin + (kM_daysOf yy)) (yy + 1)) else (if (kM_daysOf yy) = (366 : Int32) then (lok_sp how x y n (sum + (((y - x).toInt64) * 365)) (begin + (kM_daysOf yy)) (yy + 1)) else (lok_sp how x y n (sum + (((y - x).toInt64) * 366)) (begin + (kM_daysOf yy)) (yy + 1)))) else (if (begin + (kM_daysOf yy)) ≤ x then (lok_sp how x y n sum (begin + (kM_daysOf yy)) (yy + 1)) else (if (kM_daysOf yy) = (366 : Int32) then (lok_sp how x y n (sum + ((((begin + (kM_daysOf yy)) - x).toInt64) * 365)) (begin + (kM_daysOf yy)) (yy + 1)) else (lok_sp how x y n (sum + ((((begin + (kM_daysOf yy)) - x).toInt64) * 366)) (begin + (kM_daysOf yy)) (yy + 1))))) else (if y ≤ (begin + (kM_daysOf yy)) then (if y ≤ begin then (lok_sp how x y n sum (begin + (kM_daysOf yy)) (yy + 1)) else (if (kM_daysOf yy) = (366 : Int32) then (lok_sp how x y n (sum + (((y - begin).toInt64) * 365)) (begin + (kM_daysOf yy)) (yy + 1)) else (lok_sp how x y n (sum + (((y - begin).toInt64) * 366)) (begin + (kM_daysOf yy)) (yy + 1)))) else (if (begin + (kM_daysOf yy)) ≤ begin then (lok_sp how x y n sum (begin + (kM_daysOf yy)) (yy + 1)) else (if (kM_daysOf yy) = (366 : Int32) then (lok_sp how x y n (sum + ((((begin + (kM_daysOf yy)) - begin).toInt64) * 365)) (begin + (kM_daysOf yy)) (yy + 1)) else (lok_sp how x y n (sum + ((((begin + (kM_daysOf yy)) - begin).toInt64) * 366)) (begin + (kM_daysOf yy)) (yy + 1))))))
def kM_span (how : Int32) (x : Int32) (y : Int32) : Int64 := if (2 : Int32) ≤ how then (if how = (2 : Int32) then (if (kM_find x).2.2 ≤ (30 : Int32) then (if (kM_find y).2.2 ≤ (30 : Int32) then (((((360 * (kM_find y).1) + (30 * (kM_find y).2.1)) + (kM_find y).2.2) - (((360 * (kM_find x).1) + (30 * (kM_find x).2.1)) + (kM_find x).2.2)).toInt64) else (((((360 * (kM_find y).1) + (30 * (kM_find y).2.1)) + 30) - (((360 * (kM_find x).1) + (30 * (kM_find x).2.1)) + (kM_find x).2.2)).toInt64)) else (if (kM_find y).2.2 ≤ (30 : Int32) then (((((360 * (kM_find y).1) + (30 * (kM_find y).2.1)) + (kM_find y).2.2) - (((360 * (kM_find x).1) + (30 * (kM_find x).2.1)) + 30)).toInt64) else (((((360 * (kM_find y).1) + (30 * (kM_find y).2.1)) + 30) - (((360 * (kM_find x).1) + (30 * (kM_find x).2.1)) + 30)).toInt64))) else (lf_sp how x y (y.toInt.toNat + 1) (0 : Int64) (0 : Int32) (2000 : Int32))) else ((y - x).toInt64)
abbrev wgM_span : List Cond := .code yM_span cM_span 11 (some .long) :: GW
abbrev rm_M_span : Room := { frames := 3, cells := 0, slots := 0, locals := 63 }
theorem lok_sp_ok (how x y : Int32) (hby : y ≤ 1073741824) : ∀ (n : Nat) (sum : Int64) (begin yy : Int32), y.toInt - begin.toInt ≤ n → 0 ≤ begin.toInt → begin.toInt ≤ 1073742824 → lok_sp how x y (n + 1) sum begin yy = true := by
  rw [Int32.le_iff_toInt_le, show (1073741824 : Int32).toInt = 1073741824 from by decide] at hby
  have hd : ∀ yy : Int32, (kM_daysOf yy).toInt = 366 ∨ (kM_daysOf yy).toInt = 365 := fun yy => by
    rcases kd_len yy with q | q <;> rw [q]
    · exact Or.inl (by decide)
    · exact Or.inr (by decide)
  have ha : ∀ begin yy : Int32, 0 ≤ begin.toInt → begin.toInt < y.toInt → (begin + kM_daysOf yy).toInt = begin.toInt + (kM_daysOf yy).toInt := fun begin yy h1 h2 => by
    rw [Int32.toInt_add]
    have := hd yy
    exact Int.bmod_eq_of_le (by omega) (by omega)
  intro n
  induction n with
  | zero =>
    intro sum begin yy h h0 h1
    unfold lok_sp
    rw [if_pos]
    rw [Int32.le_iff_toInt_le]
    omega
  | succ n ih =>
    intro sum begin yy h h0 h1
    unfold lok_sp
    split
    · rfl
    · rename_i h2
      rw [Int32.le_iff_toInt_le] at h2
      have e1 := ha begin yy h0 (by omega)
      have e2 := hd yy
      repeat' split
      all_goals exact ih _ _ _ (by omega) (by omega) (by omega)
set_option maxRecDepth 100000 in
set_option maxHeartbeats 4000000 in
theorem c_M_span (l : Launch) (D : va_G) (G : Nat → ClassId) (b : Nat → Nat) (σ : KS) (u0 : Int32 × Int32 × Int32) (how : Int32) (x : Int32) (y : Int32) (sz : Nat) (hby : y ≤ 1073741824) : Met l yM_span wgM_span rm_M_span (kw_Pc D vwCl (gt G) [.ref (b 0), .int how, .int x, .int y] (mcells G b (scr σ u0)) sz) (kx_l D vwCl (gt G) (mcells G b (scr σ u0)) sz (kM_span how x y) (fun u => mcells G b (scr σ u))) 0 0 (va_A (mcells G b (scr σ u0)) sz) := by
  refine Met.ofW (cc := cM_span) (maxL := 11) (ret := (some .long)) (by decide) rfl ?_
  intro p e s m args below meth c s₁ B hml hv
  have hx := B.exec
  have hb := B.bytes
  have hr := B.returns
  have hts := atoms_spec (ws := wgM_span) B.pre
  have hg : ∀ w ∈ GW, w.before args s = true := fun w h => hts w (List.mem_cons_of_mem _ h)
  have hown : s.vm.findClass RM = some m.cls := findClass_of_methodNamed B.named
  have hlocks := B.notSynchronized
  obtain ⟨hv, hsz, hP, hK, hD0⟩ := hv
  subst hsz
  have hD := hD0.self (sz := s.heap.size)
  have hS : va_S (va_A (mcells G b (scr σ u0)) s.heap.size) s.heap s.heap [] := va_S.rf
  refine kw_entry [.ref (b 0), .int how, .int x, .int y] hv (Nat.le_of_ble_eq_true rfl) (fun ls hl => ?_)
  have hl : lv_has ls 11 [(0, .ref (b 0)), (1, .int how), (2, .int x), (3, .int y)] := hl
  refine lv_iload_n hx hb dM_span_0 rfl (lv_at hl 1 rfl) ?_
  refine lv_iconst (v := 2) hx hb dM_span_1 (by decide) ?_
  refine lv_icmp_ge (tgt := 10) hx hb dM_span_2 (by decide) (fun h1 => ?_) (fun h1 => ?_)
  · skip
    refine lv_iload_n hx hb dM_span_10 rfl (lv_at hl 1 rfl) ?_
    refine lv_iconst (v := 2) hx hb dM_span_11 (by decide) ?_
    refine lv_icmp_ne (tgt := 102) hx hb dM_span_12 (by decide) (fun h2 => ?_) (fun h2 => ?_)
    · skip
      refine lv_lconst (v := 0) hx hb dM_span_102 (by decide) ?_
      refine lv_lstore hx hb dM_span_103 hl (by decide) rfl (fun ls hl => ?_)
      have hl : lv_has ls 11 [(4, .long 0), (0, .ref (b 0)), (1, .int how), (2, .int x), (3, .int y)] := hl
      refine lv_iconst (v := 0) hx hb dM_span_105 (by decide) ?_
      refine lv_istore hx hb dM_span_106 hl (by decide) rfl (fun ls hl => ?_)
      have hl : lv_has ls 11 [(6, .int 0), (4, .long 0), (0, .ref (b 0)), (1, .int how), (2, .int x), (3, .int y)] := hl
      refine lv_sipush (v := 2000) hx hb dM_span_108 (by decide) ?_
      refine lv_istore hx hb dM_span_111 hl (by decide) rfl (fun ls hl => ?_)
      have hl : lv_has ls 11 [(7, .int 2000), (6, .int 0), (4, .long 0), (0, .ref (b 0)), (1, .int how), (2, .int x), (3, .int y)] := hl
      have loop : ∀ (n : Nat) (sum : Int64) (begin : Int32) (yy : Int32) (ls : Array Slot) (H : Heap) (locs : List Loc), lok_sp how x y n sum begin yy = true → lf_sp how x y n sum begin yy = kM_span how x y → lv_has ls 11 [(7, .int yy), (6, .int begin), (4, .long sum), (0, .ref (b 0)), (1, .int how), (2, .int x), (3, .int y)] → va_P D vwCl (lm G b (σ 0 0) (σ 0 1) (σ 0 2) u0.1 u0.2.1 u0.2.2 (σ 1) (σ 2) (σ 3) (σ 4) (σ 5) (σ 6) (σ 7) (σ 8) (σ 9) (σ 10) (σ 11) (σ 12) (σ 13) (σ 14) (σ 15) (σ 16) (σ 17) (σ 18) (σ 19) (σ 20) (σ 21) (σ 22)) H → va_D (va_A (mcells G b (scr σ u0)) s.heap.size) (lm G b (σ 0 0) (σ 0 1) (σ 0 2) u0.1 u0.2.1 u0.2.2 (σ 1) (σ 2) (σ 3) (σ 4) (σ 5) (σ 6) (σ 7) (σ 8) (σ 9) (σ 10) (σ 11) (σ 12) (σ 13) (σ 14) (σ 15) (σ 16) (σ 17) (σ 18) (σ 19) (σ 20) (σ 21) (σ 22)) → va_S (va_A (mcells G b (scr σ u0)) s.heap.size) s.heap H locs → W p l e (headSpec wgM_span rm_M_span).room s m args below meth c H locs 0 0 (MQ below (kx_l D vwCl (gt G) (mcells G b (scr σ u0)) s.heap.size (kM_span how x y) (fun u => mcells G b (scr σ u))) args s 0 0 (va_A (mcells G b (scr σ u0)) s.heap.size)) (F0 m 113 ls []) := by
        intro n
        induction n with
        | zero => intro sum begin yy ls H locs hok; exact absurd hok (by unfold lok_sp; decide)
        | succ n ih =>
          intro sum begin yy ls H locs hok hk hl hP hD hS
          refine lv_iload hx hb dM_span_113 (lv_at hl 1 rfl) ?_
          refine lv_iload_n hx hb dM_span_115 rfl (lv_at hl 6 rfl) ?_
          refine lv_icmp_ge (tgt := 211) hx hb dM_span_116 (by decide) (fun h3 => ?_) (fun h3 => ?_)
          · skip
            refine lv_lload hx hb dM_span_211 (lv_at hl 2 rfl) ?_
            have hk9 : kM_span how x y = sum := by rw [← hk, lf_sp, if_pos h3]
            exact kx_lret hx hb hr hlocks hK hP hD hS hk9.symm (u := (u0.1, u0.2.1, u0.2.2)) rfl dM_span_213
          · skip
            refine lv_iload hx hb dM_span_119 (lv_at hl 1 rfl) ?_
            refine lv_iload hx hb dM_span_121 (lv_at hl 0 rfl) ?_
            refine kp_reti (va_runS (As := [.int yy]) (rest := [.int begin]) ⟨hx, hb, hml, hown, hg⟩ (c_M_daysOf l yy) ⟨kw_cB (n := 1) hg gw_593 gw_2 gw_591 (by decide +kernel) (by decide +kernel) ⟨Nat.le_of_ble_eq_true rfl, Nat.le_of_ble_eq_true rfl⟩ rfl rfl, hg _ gw_592⟩ kp_pre rfl rfl hl.1 rfl (lv_room (Nat.le_of_ble_eq_true rfl)) dM_span_123 ⟨Nat.le_of_ble_eq_true rfl, Nat.le_of_ble_eq_true rfl⟩) ?_
            refine lv_topi (fun r_4 e_5 => ?_)
            replace e_5 := e_5.symm
            refine lv_iadd hx hb dM_span_126 ?_
            refine lv_istore hx hb dM_span_127 hl (by decide) rfl (fun ls hl => ?_)
            have hl : lv_has ls 11 [(8, .int (begin + r_4)), (7, .int yy), (6, .int begin), (4, .long sum), (0, .ref (b 0)), (1, .int how), (2, .int x), (3, .int y)] := hl
            refine lv_iload hx hb dM_span_129 (lv_at hl 2 rfl) ?_
            refine lv_iload_n hx hb dM_span_131 rfl (lv_at hl 6 rfl) ?_
            refine lv_icmp_le (tgt := 140) hx hb dM_span_132 (by decide) (fun h6 => ?_) (fun h6 => ?_)
            · skip
              refine lv_iload_n hx hb dM_span_140 rfl (lv_at hl 6 rfl) ?_
              refine lv_istore hx hb dM_span_141 hl (by decide) rfl (fun ls hl => ?_)
              have hl : lv_has ls 11 [(9, .int x), (8, .int (begin + r_4)), (7, .int yy), (6, .int begin), (4, .long sum), (0, .ref (b 0)), (1, .int how), (2, .int x), (3, .int y)] := hl
              refine lv_iload hx hb dM_span_143 (lv_at hl 1 rfl) ?_
              refine lv_iload_n hx hb dM_span_145 rfl (lv_at hl 8 rfl) ?_
              refine lv_icmp_ge (tgt := 154) hx hb dM_span_146 (by decide) (fun h7 => ?_) (fun h7 => ?_)
              · skip
                refine lv_iload_n hx hb dM_span_154 rfl (lv_at hl 8 rfl) ?_
                refine lv_istore hx hb dM_span_155 hl (by decide) rfl (fun ls hl => ?_)
                have hl : lv_has ls 11 [(10, .int y), (9, .int x), (8, .int (begin + r_4)), (7, .int yy), (6, .int begin), (4, .long sum), (0, .ref (b 0)), (1, .int how), (2, .int x), (3, .int y)] := hl
                refine lv_iload hx hb dM_span_157 (lv_at hl 0 rfl) ?_
                refine lv_iload hx hb dM_span_159 (lv_at hl 1 rfl) ?_
                refine lv_icmp_le (tgt := 197) hx hb dM_span_161 (by decide) (fun h8 => ?_) (fun h8 => ?_)
                · skip
                  refine lv_lload hx hb dM_span_197 (lv_at hl 5 rfl) ?_
                  refine lv_lstore hx hb dM_span_199 hl (by decide) rfl (fun ls hl => ?_)
                  have hl : lv_has ls 11 [(4, .long sum), (10, .int y), (9, .int x), (8, .int (begin + r_4)), (7, .int yy), (6, .int begin), (0, .ref (b 0)), (1, .int how), (2, .int x), (3, .int y)] := hl
                  refine lv_iload hx hb dM_span_201 (lv_at hl 3 rfl) ?_
                  refine lv_istore hx hb dM_span_203 hl (by decide) rfl (fun ls hl => ?_)
                  have hl : lv_has ls 11 [(6, .int (begin + r_4)), (4, .long sum), (10, .int y), (9, .int x), (8, .int (begin + r_4)), (7, .int yy), (0, .ref (b 0)), (1, .int how), (2, .int x), (3, .int y)] := hl
                  refine lv_iinc (v := yy + 1) hx hb dM_span_205 hl (k := 5) rfl (by first | rfl | decide) (by decide) rfl (fun ls hl => ?_)
                  have hl : lv_has ls 11 [(7, .int (yy + 1)), (6, .int (begin + r_4)), (4, .long sum), (10, .int y), (9, .int x), (8, .int (begin + r_4)), (0, .ref (b 0)), (1, .int how), (2, .int x), (3, .int y)] := hl
                  refine lv_goto (tgt := 113) hx hb dM_span_208 (by decide) ?_
                  exact ih sum (begin + r_4) (yy + 1) _ _ _ (by subst e_5; rw [← hok, lok_sp, if_neg h3, if_pos h6, if_pos h7, if_pos h8]) (by subst e_5; rw [← hk, lf_sp, if_neg h3, if_pos h6, if_pos h7, if_pos h8]) (lv_sub hl [0, 1, 2, 6, 7, 8, 9] rfl) hP hD hS
                · skip
                  refine lv_lload hx hb dM_span_164 (lv_at hl 5 rfl) ?_
                  refine lv_iload hx hb dM_span_166 (lv_at hl 0 rfl) ?_
                  refine lv_iload hx hb dM_span_168 (lv_at hl 1 rfl) ?_
                  refine lv_isub hx hb dM_span_170 ?_
                  refine lv_i2l hx hb dM_span_171 rfl ?_
                  refine lv_iload hx hb dM_span_172 (lv_at hl 3 rfl) ?_
                  refine kp_reti (va_runS (As := [.int yy]) (rest := [.long ((y - x).toInt64), .long sum]) ⟨hx, hb, hml, hown, hg⟩ (c_M_daysOf l yy) ⟨kw_cB (n := 1) hg gw_593 gw_2 gw_591 (by decide +kernel) (by decide +kernel) ⟨Nat.le_of_ble_eq_true rfl, Nat.le_of_ble_eq_true rfl⟩ rfl rfl, hg _ gw_592⟩ kp_pre rfl rfl hl.1 rfl (lv_room (Nat.le_of_ble_eq_true rfl)) dM_span_174 ⟨Nat.le_of_ble_eq_true rfl, Nat.le_of_ble_eq_true rfl⟩) ?_
                  refine lv_topi (fun r_9 e_10 => ?_)
                  replace e_10 := e_10.symm
                  refine lv_sipush (v := 366) hx hb dM_span_177 (by decide) ?_
                  refine lv_icmp_ne (tgt := 189) hx hb dM_span_180 (by decide) (fun h11 => ?_) (fun h11 => ?_)
                  · skip
                    refine lv_ldc2 (v := 366) hx hb hown (hg _ gw_612) dM_span_189 ?_
                    refine lv_lmul hx hb dM_span_192 ?_
                    refine lv_ladd hx hb dM_span_193 ?_
                    refine lv_goto (tgt := 199) hx hb dM_span_194 (by decide) ?_
                    refine lv_lstore hx hb dM_span_199 hl (by decide) rfl (fun ls hl => ?_)
                    have hl : lv_has ls 11 [(4, .long (sum + (((y - x).toInt64) * 366))), (10, .int y), (9, .int x), (8, .int (begin + r_4)), (7, .int yy), (6, .int begin), (0, .ref (b 0)), (1, .int how), (2, .int x), (3, .int y)] := hl
                    refine lv_iload hx hb dM_span_201 (lv_at hl 3 rfl) ?_
                    refine lv_istore hx hb dM_span_203 hl (by decide) rfl (fun ls hl => ?_)
                    have hl : lv_has ls 11 [(6, .int (begin + r_4)), (4, .long (sum + (((y - x).toInt64) * 366))), (10, .int y), (9, .int x), (8, .int (begin + r_4)), (7, .int yy), (0, .ref (b 0)), (1, .int how), (2, .int x), (3, .int y)] := hl
                    refine lv_iinc (v := yy + 1) hx hb dM_span_205 hl (k := 5) rfl (by first | rfl | decide) (by decide) rfl (fun ls hl => ?_)
                    have hl : lv_has ls 11 [(7, .int (yy + 1)), (6, .int (begin + r_4)), (4, .long (sum + (((y - x).toInt64) * 366))), (10, .int y), (9, .int x), (8, .int (begin + r_4)), (0, .ref (b 0)), (1, .int how), (2, .int x), (3, .int y)] := hl
                    refine lv_goto (tgt := 113) hx hb dM_span_208 (by decide) ?_
                    exact ih (sum + (((y - x).toInt64) * 366)) (begin + r_4) (yy + 1) _ _ _ (by subst e_5 e_10; rw [← hok, lok_sp, if_neg h3, if_pos h6, if_pos h7, if_neg h8, if_neg h11]) (by subst e_5 e_10; rw [← hk, lf_sp, if_neg h3, if_pos h6, if_pos h7, if_neg h8, if_neg h11]) (lv_sub hl [0, 1, 2, 6, 7, 8, 9] rfl) hP hD hS
                  · skip
                    refine lv_ldc2 (v := 365) hx hb hown (hg _ gw_611) dM_span_183 ?_
                    refine lv_goto (tgt := 192) hx hb dM_span_186 (by decide) ?_
                    refine lv_lmul hx hb dM_span_192 ?_
                    refine lv_ladd hx hb dM_span_193 ?_
                    refine lv_goto (tgt := 199) hx hb dM_span_194 (by decide) ?_
                    refine lv_lstore hx hb dM_span_199 hl (by decide) rfl (fun ls hl => ?_)
                    have hl : lv_has ls 11 [(4, .long (sum + (((y - x).toInt64) * 365))), (10, .int y), (9, .int x), (8, .int (begin + r_4)), (7, .int yy), (6, .int begin), (0, .ref (b 0)), (1, .int how), (2, .int x), (3, .int y)] := hl
                    refine lv_iload hx hb dM_span_201 (lv_at hl 3 rfl) ?_
                    refine lv_istore hx hb dM_span_203 hl (by decide) rfl (fun ls hl => ?_)
                    have hl : lv_has ls 11 [(6, .int (begin + r_4)), (4, .long (sum + (((y - x).toInt64) * 365))), (10, .int y), (9, .int x), (8, .int (begin + r_4)), (7, .int yy), (0, .ref (b 0)), (1, .int how), (2, .int x), (3, .int y)] := hl
                    refine lv_iinc (v := yy + 1) hx hb dM_span_205 hl (k := 5) rfl (by first | rfl | decide) (by decide) rfl (fun ls hl => ?_)
                    have hl : lv_has ls 11 [(7, .int (yy + 1)), (6, .int (begin + r_4)), (4, .long (sum + (((y - x).toInt64) * 365))), (10, .int y), (9, .int x), (8, .int (begin + r_4)), (0, .ref (b 0)), (1, .int how), (2, .int x), (3, .int y)] := hl
                    refine lv_goto (tgt := 113) hx hb dM_span_208 (by decide) ?_
                    exact ih (sum + (((y - x).toInt64) * 365)) (begin + r_4) (yy + 1) _ _ _ (by subst e_5 e_10; rw [← hok, lok_sp, if_neg h3, if_pos h6, if_pos h7, if_neg h8, if_pos h11]) (by subst e_5 e_10; rw [← hk, lf_sp, if_neg h3, if_pos h6, if_pos h7, if_neg h8, if_pos h11]) (lv_sub hl [0, 1, 2, 6, 7, 8, 9] rfl) hP hD hS
              · skip
                refine lv_iload hx hb dM_span_149 (lv_at hl 1 rfl) ?_
                refine lv_goto (tgt := 155) hx hb dM_span_151 (by decide) ?_
                refine lv_istore hx hb dM_span_155 hl (by decide) rfl (fun ls hl => ?_)
                have hl : lv_has ls 11 [(10, .int (begin + r_4)), (9, .int x), (8, .int (begin + r_4)), (7, .int yy), (6, .int begin), (4, .long sum), (0, .ref (b 0)), (1, .int how), (2, .int x), (3, .int y)] := hl
                refine lv_iload hx hb dM_span_157 (lv_at hl 0 rfl) ?_
                refine lv_iload hx hb dM_span_159 (lv_at hl 1 rfl) ?_
                refine lv_icmp_le (tgt := 197) hx hb dM_span_161 (by decide) (fun h12 => ?_) (fun h12 => ?_)
                · skip
                  refine lv_lload hx hb dM_span_197 (lv_at hl 5 rfl) ?_
                  refine lv_lstore hx hb dM_span_199 hl (by decide) rfl (fun ls hl => ?_)
                  have hl : lv_has ls 11 [(4, .long sum), (10, .int (begin + r_4)), (9, .int x), (8, .int (begin + r_4)), (7, .int yy), (6, .int begin), (0, .ref (b 0)), (1, .int how), (2, .int x), (3, .int y)] := hl
                  refine lv_iload hx hb dM_span_201 (lv_at hl 3 rfl) ?_
                  refine lv_istore hx hb dM_span_203 hl (by decide) rfl (fun ls hl => ?_)
                  have hl : lv_has ls 11 [(6, .int (begin + r_4)), (4, .long sum), (10, .int (begin + r_4)), (9, .int x), (8, .int (begin + r_4)), (7, .int yy), (0, .ref (b 0)), (1, .int how), (2, .int x), (3, .int y)] := hl
                  refine lv_iinc (v := yy + 1) hx hb dM_span_205 hl (k := 5) rfl (by first | rfl | decide) (by decide) rfl (fun ls hl => ?_)
                  have hl : lv_has ls 11 [(7, .int (yy + 1)), (6, .int (begin + r_4)), (4, .long sum), (10, .int (begin + r_4)), (9, .int x), (8, .int (begin + r_4)), (0, .ref (b 0)), (1, .int how), (2, .int x), (3, .int y)] := hl
                  refine lv_goto (tgt := 113) hx hb dM_span_208 (by decide) ?_
                  exact ih sum (begin + r_4) (yy + 1) _ _ _ (by subst e_5; rw [← hok, lok_sp, if_neg h3, if_pos h6, if_neg h7, if_pos h12]) (by subst e_5; rw [← hk, lf_sp, if_neg h3, if_pos h6, if_neg h7, if_pos h12]) (lv_sub hl [0, 1, 2, 6, 7, 8, 9] rfl) hP hD hS
                · skip
                  refine lv_lload hx hb dM_span_164 (lv_at hl 5 rfl) ?_
                  refine lv_iload hx hb dM_span_166 (lv_at hl 0 rfl) ?_
                  refine lv_iload hx hb dM_span_168 (lv_at hl 1 rfl) ?_
                  refine lv_isub hx hb dM_span_170 ?_
                  refine lv_i2l hx hb dM_span_171 rfl ?_
                  refine lv_iload hx hb dM_span_172 (lv_at hl 3 rfl) ?_
                  refine kp_reti (va_runS (As := [.int yy]) (rest := [.long (((begin + r_4) - x).toInt64), .long sum]) ⟨hx, hb, hml, hown, hg⟩ (c_M_daysOf l yy) ⟨kw_cB (n := 1) hg gw_593 gw_2 gw_591 (by decide +kernel) (by decide +kernel) ⟨Nat.le_of_ble_eq_true rfl, Nat.le_of_ble_eq_true rfl⟩ rfl rfl, hg _ gw_592⟩ kp_pre rfl rfl hl.1 rfl (lv_room (Nat.le_of_ble_eq_true rfl)) dM_span_174 ⟨Nat.le_of_ble_eq_true rfl, Nat.le_of_ble_eq_true rfl⟩) ?_
                  refine lv_topi (fun r_13 e_14 => ?_)
                  replace e_14 := e_14.symm
                  refine lv_sipush (v := 366) hx hb dM_span_177 (by decide) ?_
                  refine lv_icmp_ne (tgt := 189) hx hb dM_span_180 (by decide) (fun h15 => ?_) (fun h15 => ?_)
                  · skip
                    refine lv_ldc2 (v := 366) hx hb hown (hg _ gw_612) dM_span_189 ?_
                    refine lv_lmul hx hb dM_span_192 ?_
                    refine lv_ladd hx hb dM_span_193 ?_
                    refine lv_goto (tgt := 199) hx hb dM_span_194 (by decide) ?_
                    refine lv_lstore hx hb dM_span_199 hl (by decide) rfl (fun ls hl => ?_)
                    have hl : lv_has ls 11 [(4, .long (sum + ((((begin + r_4) - x).toInt64) * 366))), (10, .int (begin + r_4)), (9, .int x), (8, .int (begin + r_4)), (7, .int yy), (6, .int begin), (0, .ref (b 0)), (1, .int how), (2, .int x), (3, .int y)] := hl
                    refine lv_iload hx hb dM_span_201 (lv_at hl 3 rfl) ?_
                    refine lv_istore hx hb dM_span_203 hl (by decide) rfl (fun ls hl => ?_)
                    have hl : lv_has ls 11 [(6, .int (begin + r_4)), (4, .long (sum + ((((begin + r_4) - x).toInt64) * 366))), (10, .int (begin + r_4)), (9, .int x), (8, .int (begin + r_4)), (7, .int yy), (0, .ref (b 0)), (1, .int how), (2, .int x), (3, .int y)] := hl
                    refine lv_iinc (v := yy + 1) hx hb dM_span_205 hl (k := 5) rfl (by first | rfl | decide) (by decide) rfl (fun ls hl => ?_)
                    have hl : lv_has ls 11 [(7, .int (yy + 1)), (6, .int (begin + r_4)), (4, .long (sum + ((((begin + r_4) - x).toInt64) * 366))), (10, .int (begin + r_4)), (9, .int x), (8, .int (begin + r_4)), (0, .ref (b 0)), (1, .int how), (2, .int x), (3, .int y)] := hl
                    refine lv_goto (tgt := 113) hx hb dM_span_208 (by decide) ?_
                    exact ih (sum + ((((begin + r_4) - x).toInt64) * 366)) (begin + r_4) (yy + 1) _ _ _ (by subst e_5 e_14; rw [← hok, lok_sp, if_neg h3, if_pos h6, if_neg h7, if_neg h12, if_neg h15]) (by subst e_5 e_14; rw [← hk, lf_sp, if_neg h3, if_pos h6, if_neg h7, if_neg h12, if_neg h15]) (lv_sub hl [0, 1, 2, 6, 7, 8, 9] rfl) hP hD hS
                  · skip
                    refine lv_ldc2 (v := 365) hx hb hown (hg _ gw_611) dM_span_183 ?_
                    refine lv_goto (tgt := 192) hx hb dM_span_186 (by decide) ?_
                    refine lv_lmul hx hb dM_span_192 ?_
                    refine lv_ladd hx hb dM_span_193 ?_
                    refine lv_goto (tgt := 199) hx hb dM_span_194 (by decide) ?_
                    refine lv_lstore hx hb dM_span_199 hl (by decide) rfl (fun ls hl => ?_)
                    have hl : lv_has ls 11 [(4, .long (sum + ((((begin + r_4) - x).toInt64) * 365))), (10, .int (begin + r_4)), (9, .int x), (8, .int (begin + r_4)), (7, .int yy), (6, .int begin), (0, .ref (b 0)), (1, .int how), (2, .int x), (3, .int y)] := hl
                    refine lv_iload hx hb dM_span_201 (lv_at hl 3 rfl) ?_
                    refine lv_istore hx hb dM_span_203 hl (by decide) rfl (fun ls hl => ?_)
                    have hl : lv_has ls 11 [(6, .int (begin + r_4)), (4, .long (sum + ((((begin + r_4) - x).toInt64) * 365))), (10, .int (begin + r_4)), (9, .int x), (8, .int (begin + r_4)), (7, .int yy), (0, .ref (b 0)), (1, .int how), (2, .int x), (3, .int y)] := hl
                    refine lv_iinc (v := yy + 1) hx hb dM_span_205 hl (k := 5) rfl (by first | rfl | decide) (by decide) rfl (fun ls hl => ?_)
                    have hl : lv_has ls 11 [(7, .int (yy + 1)), (6, .int (begin + r_4)), (4, .long (sum + ((((begin + r_4) - x).toInt64) * 365))), (10, .int (begin + r_4)), (9, .int x), (8, .int (begin + r_4)), (0, .ref (b 0)), (1, .int how), (2, .int x), (3, .int y)] := hl
                    refine lv_goto (tgt := 113) hx hb dM_span_208 (by decide) ?_
                    exact ih (sum + ((((begin + r_4) - x).toInt64) * 365)) (begin + r_4) (yy + 1) _ _ _ (by subst e_5 e_14; rw [← hok, lok_sp, if_neg h3, if_pos h6, if_neg h7, if_neg h12, if_pos h15]) (by subst e_5 e_14; rw [← hk, lf_sp, if_neg h3, if_pos h6, if_neg h7, if_neg h12, if_pos h15]) (lv_sub hl [0, 1, 2, 6, 7, 8, 9] rfl) hP hD hS
            · skip
              refine lv_iload hx hb dM_span_135 (lv_at hl 2 rfl) ?_
              refine lv_goto (tgt := 141) hx hb dM_span_137 (by decide) ?_
              refine lv_istore hx hb dM_span_141 hl (by decide) rfl (fun ls hl => ?_)
              have hl : lv_has ls 11 [(9, .int begin), (8, .int (begin + r_4)), (7, .int yy), (6, .int begin), (4, .long sum), (0, .ref (b 0)), (1, .int how), (2, .int x), (3, .int y)] := hl
              refine lv_iload hx hb dM_span_143 (lv_at hl 1 rfl) ?_
              refine lv_iload_n hx hb dM_span_145 rfl (lv_at hl 8 rfl) ?_
              refine lv_icmp_ge (tgt := 154) hx hb dM_span_146 (by decide) (fun h16 => ?_) (fun h16 => ?_)
              · skip
                refine lv_iload_n hx hb dM_span_154 rfl (lv_at hl 8 rfl) ?_
                refine lv_istore hx hb dM_span_155 hl (by decide) rfl (fun ls hl => ?_)
                have hl : lv_has ls 11 [(10, .int y), (9, .int begin), (8, .int (begin + r_4)), (7, .int yy), (6, .int begin), (4, .long sum), (0, .ref (b 0)), (1, .int how), (2, .int x), (3, .int y)] := hl
                refine lv_iload hx hb dM_span_157 (lv_at hl 0 rfl) ?_
                refine lv_iload hx hb dM_span_159 (lv_at hl 1 rfl) ?_
                refine lv_icmp_le (tgt := 197) hx hb dM_span_161 (by decide) (fun h17 => ?_) (fun h17 => ?_)
                · skip
                  refine lv_lload hx hb dM_span_197 (lv_at hl 5 rfl) ?_
                  refine lv_lstore hx hb dM_span_199 hl (by decide) rfl (fun ls hl => ?_)
                  have hl : lv_has ls 11 [(4, .long sum), (10, .int y), (9, .int begin), (8, .int (begin + r_4)), (7, .int yy), (6, .int begin), (0, .ref (b 0)), (1, .int how), (2, .int x), (3, .int y)] := hl
                  refine lv_iload hx hb dM_span_201 (lv_at hl 3 rfl) ?_
                  refine lv_istore hx hb dM_span_203 hl (by decide) rfl (fun ls hl => ?_)
                  have hl : lv_has ls 11 [(6, .int (begin + r_4)), (4, .long sum), (10, .int y), (9, .int begin), (8, .int (begin + r_4)), (7, .int yy), (0, .ref (b 0)), (1, .int how), (2, .int x), (3, .int y)] := hl
                  refine lv_iinc (v := yy + 1) hx hb dM_span_205 hl (k := 5) rfl (by first | rfl | decide) (by decide) rfl (fun ls hl => ?_)
                  have hl : lv_has ls 11 [(7, .int (yy + 1)), (6, .int (begin + r_4)), (4, .long sum), (10, .int y), (9, .int begin), (8, .int (begin + r_4)), (0, .ref (b 0)), (1, .int how), (2, .int x), (3, .int y)] := hl
                  refine lv_goto (tgt := 113) hx hb dM_span_208 (by decide) ?_
                  exact ih sum (begin + r_4) (yy + 1) _ _ _ (by subst e_5; rw [← hok, lok_sp, if_neg h3, if_neg h6, if_pos h16, if_pos h17]) (by subst e_5; rw [← hk, lf_sp, if_neg h3, if_neg h6, if_pos h16, if_pos h17]) (lv_sub hl [0, 1, 2, 6, 7, 8, 9] rfl) hP hD hS
                · skip
                  refine lv_lload hx hb dM_span_164 (lv_at hl 5 rfl) ?_
                  refine lv_iload hx hb dM_span_166 (lv_at hl 0 rfl) ?_
                  refine lv_iload hx hb dM_span_168 (lv_at hl 1 rfl) ?_
                  refine lv_isub hx hb dM_span_170 ?_
                  refine lv_i2l hx hb dM_span_171 rfl ?_
                  refine lv_iload hx hb dM_span_172 (lv_at hl 3 rfl) ?_
                  refine kp_reti (va_runS (As := [.int yy]) (rest := [.long ((y - begin).toInt64), .long sum]) ⟨hx, hb, hml, hown, hg⟩ (c_M_daysOf l yy) ⟨kw_cB (n := 1) hg gw_593 gw_2 gw_591 (by decide +kernel) (by decide +kernel) ⟨Nat.le_of_ble_eq_true rfl, Nat.le_of_ble_eq_true rfl⟩ rfl rfl, hg _ gw_592⟩ kp_pre rfl rfl hl.1 rfl (lv_room (Nat.le_of_ble_eq_true rfl)) dM_span_174 ⟨Nat.le_of_ble_eq_true rfl, Nat.le_of_ble_eq_true rfl⟩) ?_
                  refine lv_topi (fun r_18 e_19 => ?_)
                  replace e_19 := e_19.symm
                  refine lv_sipush (v := 366) hx hb dM_span_177 (by decide) ?_
                  refine lv_icmp_ne (tgt := 189) hx hb dM_span_180 (by decide) (fun h20 => ?_) (fun h20 => ?_)
                  · skip
                    refine lv_ldc2 (v := 366) hx hb hown (hg _ gw_612) dM_span_189 ?_
                    refine lv_lmul hx hb dM_span_192 ?_
                    refine lv_ladd hx hb dM_span_193 ?_
                    refine lv_goto (tgt := 199) hx hb dM_span_194 (by decide) ?_
                    refine lv_lstore hx hb dM_span_199 hl (by decide) rfl (fun ls hl => ?_)
                    have hl : lv_has ls 11 [(4, .long (sum + (((y - begin).toInt64) * 366))), (10, .int y), (9, .int begin), (8, .int (begin + r_4)), (7, .int yy), (6, .int begin), (0, .ref (b 0)), (1, .int how), (2, .int x), (3, .int y)] := hl
                    refine lv_iload hx hb dM_span_201 (lv_at hl 3 rfl) ?_
                    refine lv_istore hx hb dM_span_203 hl (by decide) rfl (fun ls hl => ?_)
                    have hl : lv_has ls 11 [(6, .int (begin + r_4)), (4, .long (sum + (((y - begin).toInt64) * 366))), (10, .int y), (9, .int begin), (8, .int (begin + r_4)), (7, .int yy), (0, .ref (b 0)), (1, .int how), (2, .int x), (3, .int y)] := hl
                    refine lv_iinc (v := yy + 1) hx hb dM_span_205 hl (k := 5) rfl (by first | rfl | decide) (by decide) rfl (fun ls hl => ?_)
                    have hl : lv_has ls 11 [(7, .int (yy + 1)), (6, .int (begin + r_4)), (4, .long (sum + (((y - begin).toInt64) * 366))), (10, .int y), (9, .int begin), (8, .int (begin + r_4)), (0, .ref (b 0)), (1, .int how), (2, .int x), (3, .int y)] := hl
                    refine lv_goto (tgt := 113) hx hb dM_span_208 (by decide) ?_
                    exact ih (sum + (((y - begin).toInt64) * 366)) (begin + r_4) (yy + 1) _ _ _ (by subst e_5 e_19; rw [← hok, lok_sp, if_neg h3, if_neg h6, if_pos h16, if_neg h17, if_neg h20]) (by subst e_5 e_19; rw [← hk, lf_sp, if_neg h3, if_neg h6, if_pos h16, if_neg h17, if_neg h20]) (lv_sub hl [0, 1, 2, 6, 7, 8, 9] rfl) hP hD hS
                  · skip
                    refine lv_ldc2 (v := 365) hx hb hown (hg _ gw_611) dM_span_183 ?_
                    refine lv_goto (tgt := 192) hx hb dM_span_186 (by decide) ?_
                    refine lv_lmul hx hb dM_span_192 ?_
                    refine lv_ladd hx hb dM_span_193 ?_
                    refine lv_goto (tgt := 199) hx hb dM_span_194 (by decide) ?_
                    refine lv_lstore hx hb dM_span_199 hl (by decide) rfl (fun ls hl => ?_)
                    have hl : lv_has ls 11 [(4, .long (sum + (((y - begin).toInt64) * 365))), (10, .int y), (9, .int begin), (8, .int (begin + r_4)), (7, .int yy), (6, .int begin), (0, .ref (b 0)), (1, .int how), (2, .int x), (3, .int y)] := hl
                    refine lv_iload hx hb dM_span_201 (lv_at hl 3 rfl) ?_
                    refine lv_istore hx hb dM_span_203 hl (by decide) rfl (fun ls hl => ?_)
                    have hl : lv_has ls 11 [(6, .int (begin + r_4)), (4, .long (sum + (((y - begin).toInt64) * 365))), (10, .int y), (9, .int begin), (8, .int (begin + r_4)), (7, .int yy), (0, .ref (b 0)), (1, .int how), (2, .int x), (3, .int y)] := hl
                    refine lv_iinc (v := yy + 1) hx hb dM_span_205 hl (k := 5) rfl (by first | rfl | decide) (by decide) rfl (fun ls hl => ?_)
                    have hl : lv_has ls 11 [(7, .int (yy + 1)), (6, .int (begin + r_4)), (4, .long (sum + (((y - begin).toInt64) * 365))), (10, .int y), (9, .int begin), (8, .int (begin + r_4)), (0, .ref (b 0)), (1, .int how), (2, .int x), (3, .int y)] := hl
                    refine lv_goto (tgt := 113) hx hb dM_span_208 (by decide) ?_
                    exact ih (sum + (((y - begin).toInt64) * 365)) (begin + r_4) (yy + 1) _ _ _ (by subst e_5 e_19; rw [← hok, lok_sp, if_neg h3, if_neg h6, if_pos h16, if_neg h17, if_pos h20]) (by subst e_5 e_19; rw [← hk, lf_sp, if_neg h3, if_neg h6, if_pos h16, if_neg h17, if_pos h20]) (lv_sub hl [0, 1, 2, 6, 7, 8, 9] rfl) hP hD hS
              · skip
                refine lv_iload hx hb dM_span_149 (lv_at hl 1 rfl) ?_
                refine lv_goto (tgt := 155) hx hb dM_span_151 (by decide) ?_
                refine lv_istore hx hb dM_span_155 hl (by decide) rfl (fun ls hl => ?_)
                have hl : lv_has ls 11 [(10, .int (begin + r_4)), (9, .int begin), (8, .int (begin + r_4)), (7, .int yy), (6, .int begin), (4, .long sum), (0, .ref (b 0)), (1, .int how), (2, .int x), (3, .int y)] := hl
                refine lv_iload hx hb dM_span_157 (lv_at hl 0 rfl) ?_
                refine lv_iload hx hb dM_span_159 (lv_at hl 1 rfl) ?_
                refine lv_icmp_le (tgt := 197) hx hb dM_span_161 (by decide) (fun h21 => ?_) (fun h21 => ?_)
                · skip
                  refine lv_lload hx hb dM_span_197 (lv_at hl 5 rfl) ?_
                  refine lv_lstore hx hb dM_span_199 hl (by decide) rfl (fun ls hl => ?_)
                  have hl : lv_has ls 11 [(4, .long sum), (10, .int (begin + r_4)), (9, .int begin), (8, .int (begin + r_4)), (7, .int yy), (6, .int begin), (0, .ref (b 0)), (1, .int how), (2, .int x), (3, .int y)] := hl
                  refine lv_iload hx hb dM_span_201 (lv_at hl 3 rfl) ?_
                  refine lv_istore hx hb dM_span_203 hl (by decide) rfl (fun ls hl => ?_)
                  have hl : lv_has ls 11 [(6, .int (begin + r_4)), (4, .long sum), (10, .int (begin + r_4)), (9, .int begin), (8, .int (begin + r_4)), (7, .int yy), (0, .ref (b 0)), (1, .int how), (2, .int x), (3, .int y)] := hl
                  refine lv_iinc (v := yy + 1) hx hb dM_span_205 hl (k := 5) rfl (by first | rfl | decide) (by decide) rfl (fun ls hl => ?_)
                  have hl : lv_has ls 11 [(7, .int (yy + 1)), (6, .int (begin + r_4)), (4, .long sum), (10, .int (begin + r_4)), (9, .int begin), (8, .int (begin + r_4)), (0, .ref (b 0)), (1, .int how), (2, .int x), (3, .int y)] := hl
                  refine lv_goto (tgt := 113) hx hb dM_span_208 (by decide) ?_
                  exact ih sum (begin + r_4) (yy + 1) _ _ _ (by subst e_5; rw [← hok, lok_sp, if_neg h3, if_neg h6, if_neg h16, if_pos h21]) (by subst e_5; rw [← hk, lf_sp, if_neg h3, if_neg h6, if_neg h16, if_pos h21]) (lv_sub hl [0, 1, 2, 6, 7, 8, 9] rfl) hP hD hS
                · skip
                  refine lv_lload hx hb dM_span_164 (lv_at hl 5 rfl) ?_
                  refine lv_iload hx hb dM_span_166 (lv_at hl 0 rfl) ?_
                  refine lv_iload hx hb dM_span_168 (lv_at hl 1 rfl) ?_
                  refine lv_isub hx hb dM_span_170 ?_
                  refine lv_i2l hx hb dM_span_171 rfl ?_
                  refine lv_iload hx hb dM_span_172 (lv_at hl 3 rfl) ?_
                  refine kp_reti (va_runS (As := [.int yy]) (rest := [.long (((begin + r_4) - begin).toInt64), .long sum]) ⟨hx, hb, hml, hown, hg⟩ (c_M_daysOf l yy) ⟨kw_cB (n := 1) hg gw_593 gw_2 gw_591 (by decide +kernel) (by decide +kernel) ⟨Nat.le_of_ble_eq_true rfl, Nat.le_of_ble_eq_true rfl⟩ rfl rfl, hg _ gw_592⟩ kp_pre rfl rfl hl.1 rfl (lv_room (Nat.le_of_ble_eq_true rfl)) dM_span_174 ⟨Nat.le_of_ble_eq_true rfl, Nat.le_of_ble_eq_true rfl⟩) ?_
                  refine lv_topi (fun r_22 e_23 => ?_)
                  replace e_23 := e_23.symm
                  refine lv_sipush (v := 366) hx hb dM_span_177 (by decide) ?_
                  refine lv_icmp_ne (tgt := 189) hx hb dM_span_180 (by decide) (fun h24 => ?_) (fun h24 => ?_)
                  · skip
                    refine lv_ldc2 (v := 366) hx hb hown (hg _ gw_612) dM_span_189 ?_
                    refine lv_lmul hx hb dM_span_192 ?_
                    refine lv_ladd hx hb dM_span_193 ?_
                    refine lv_goto (tgt := 199) hx hb dM_span_194 (by decide) ?_
                    refine lv_lstore hx hb dM_span_199 hl (by decide) rfl (fun ls hl => ?_)
                    have hl : lv_has ls 11 [(4, .long (sum + ((((begin + r_4) - begin).toInt64) * 366))), (10, .int (begin + r_4)), (9, .int begin), (8, .int (begin + r_4)), (7, .int yy), (6, .int begin), (0, .ref (b 0)), (1, .int how), (2, .int x), (3, .int y)] := hl
                    refine lv_iload hx hb dM_span_201 (lv_at hl 3 rfl) ?_
                    refine lv_istore hx hb dM_span_203 hl (by decide) rfl (fun ls hl => ?_)
                    have hl : lv_has ls 11 [(6, .int (begin + r_4)), (4, .long (sum + ((((begin + r_4) - begin).toInt64) * 366))), (10, .int (begin + r_4)), (9, .int begin), (8, .int (begin + r_4)), (7, .int yy), (0, .ref (b 0)), (1, .int how), (2, .int x), (3, .int y)] := hl
                    refine lv_iinc (v := yy + 1) hx hb dM_span_205 hl (k := 5) rfl (by first | rfl | decide) (by decide) rfl (fun ls hl => ?_)
                    have hl : lv_has ls 11 [(7, .int (yy + 1)), (6, .int (begin + r_4)), (4, .long (sum + ((((begin + r_4) - begin).toInt64) * 366))), (10, .int (begin + r_4)), (9, .int begin), (8, .int (begin + r_4)), (0, .ref (b 0)), (1, .int how), (2, .int x), (3, .int y)] := hl
                    refine lv_goto (tgt := 113) hx hb dM_span_208 (by decide) ?_
                    exact ih (sum + ((((begin + r_4) - begin).toInt64) * 366)) (begin + r_4) (yy + 1) _ _ _ (by subst e_5 e_23; rw [← hok, lok_sp, if_neg h3, if_neg h6, if_neg h16, if_neg h21, if_neg h24]) (by subst e_5 e_23; rw [← hk, lf_sp, if_neg h3, if_neg h6, if_neg h16, if_neg h21, if_neg h24]) (lv_sub hl [0, 1, 2, 6, 7, 8, 9] rfl) hP hD hS
                  · skip
                    refine lv_ldc2 (v := 365) hx hb hown (hg _ gw_611) dM_span_183 ?_
                    refine lv_goto (tgt := 192) hx hb dM_span_186 (by decide) ?_
                    refine lv_lmul hx hb dM_span_192 ?_
                    refine lv_ladd hx hb dM_span_193 ?_
                    refine lv_goto (tgt := 199) hx hb dM_span_194 (by decide) ?_
                    refine lv_lstore hx hb dM_span_199 hl (by decide) rfl (fun ls hl => ?_)
                    have hl : lv_has ls 11 [(4, .long (sum + ((((begin + r_4) - begin).toInt64) * 365))), (10, .int (begin + r_4)), (9, .int begin), (8, .int (begin + r_4)), (7, .int yy), (6, .int begin), (0, .ref (b 0)), (1, .int how), (2, .int x), (3, .int y)] := hl
                    refine lv_iload hx hb dM_span_201 (lv_at hl 3 rfl) ?_
                    refine lv_istore hx hb dM_span_203 hl (by decide) rfl (fun ls hl => ?_)
                    have hl : lv_has ls 11 [(6, .int (begin + r_4)), (4, .long (sum + ((((begin + r_4) - begin).toInt64) * 365))), (10, .int (begin + r_4)), (9, .int begin), (8, .int (begin + r_4)), (7, .int yy), (0, .ref (b 0)), (1, .int how), (2, .int x), (3, .int y)] := hl
                    refine lv_iinc (v := yy + 1) hx hb dM_span_205 hl (k := 5) rfl (by first | rfl | decide) (by decide) rfl (fun ls hl => ?_)
                    have hl : lv_has ls 11 [(7, .int (yy + 1)), (6, .int (begin + r_4)), (4, .long (sum + ((((begin + r_4) - begin).toInt64) * 365))), (10, .int (begin + r_4)), (9, .int begin), (8, .int (begin + r_4)), (0, .ref (b 0)), (1, .int how), (2, .int x), (3, .int y)] := hl
                    refine lv_goto (tgt := 113) hx hb dM_span_208 (by decide) ?_
                    exact ih (sum + ((((begin + r_4) - begin).toInt64) * 365)) (begin + r_4) (yy + 1) _ _ _ (by subst e_5 e_23; rw [← hok, lok_sp, if_neg h3, if_neg h6, if_neg h16, if_neg h21, if_pos h24]) (by subst e_5 e_23; rw [← hk, lf_sp, if_neg h3, if_neg h6, if_neg h16, if_neg h21, if_pos h24]) (lv_sub hl [0, 1, 2, 6, 7, 8, 9] rfl) hP hD hS
      exact loop (y.toInt.toNat + 1) (0 : Int64) (0 : Int32) (2000 : Int32) _ _ _ (lok_sp_ok how x y hby _ _ _ _ (by rw [show (0 : Int32).toInt = 0 from by decide]; omega) (by decide) (by decide)) (by unfold kM_span; rw [if_pos h1, if_neg h2]) (lv_sub hl [0, 1, 2, 3, 4, 5, 6] rfl) hP hD hS
    · skip
      refine lv_aload_n hx hb dM_span_15 rfl (lv_at hl 0 rfl) ?_
      refine lv_iload_n hx hb dM_span_16 rfl (lv_at hl 2 rfl) ?_
      refine kw_retv0 (va_runV (C := RM) (As := [.int x]) (rest := []) ⟨hx, hb, hml, hown, hg⟩ (c_M_find l D G b σ (u0.1, u0.2.1, u0.2.2) x _) ⟨kw_cB (n := 1) hg gw_590 gw_2 gw_588 (by decide +kernel) (by decide +kernel) ⟨Nat.le_of_ble_eq_true rfl, Nat.le_of_ble_eq_true rfl⟩ rfl rfl, hg _ gw_589, hg _ gw_743⟩ (kw_preV (q0 := 0) hK hP hD rfl rfl) rfl rfl hl.1 rfl (lv_room (Nat.le_of_ble_eq_true rfl)) dM_span_17 ⟨Nat.le_of_ble_eq_true rfl, Nat.le_of_ble_eq_true rfl⟩) hP hD hS (fun _ h => Or.inr h) (fun H locs hP hD hS => ?_)
      obtain ⟨t_25, e_26⟩ : ∃ z : Int32 × Int32 × Int32, kM_find x = z := ⟨_, rfl⟩
      rw [e_26] at hP hD
      refine lv_sipush (v := 360) hx hb dM_span_20 (by decide) ?_
      refine lv_aload_n hx hb dM_span_23 rfl (lv_at hl 0 rfl) ?_
      refine va_get (v := .int t_25.1) hx hb hg hin_M hown hK hP 0 rfl rfl 25 (by decide) (hg _ gw_519) (fun _ h => h) rfl dM_span_24 ?_
      refine lv_imul hx hb dM_span_27 ?_
      refine lv_bipush (v := 30) hx hb dM_span_28 (by decide) ?_
      refine lv_aload_n hx hb dM_span_30 rfl (lv_at hl 0 rfl) ?_
      refine va_get (v := .int t_25.2.1) hx hb hg hin_M hown hK hP 0 rfl rfl 26 (by decide) (hg _ gw_520) (fun _ h => h) rfl dM_span_31 ?_
      refine lv_imul hx hb dM_span_34 ?_
      refine lv_iadd hx hb dM_span_35 ?_
      refine lv_aload_n hx hb dM_span_36 rfl (lv_at hl 0 rfl) ?_
      refine va_get (v := .int t_25.2.2) hx hb hg hin_M hown hK hP 0 rfl rfl 27 (by decide) (hg _ gw_521) (fun _ h => h) rfl dM_span_37 ?_
      refine lv_bipush (v := 30) hx hb dM_span_40 (by decide) ?_
      refine lv_icmp_le (tgt := 50) hx hb dM_span_42 (by decide) (fun h27 => ?_) (fun h27 => ?_)
      · skip
        refine lv_aload_n hx hb dM_span_50 rfl (lv_at hl 0 rfl) ?_
        refine va_get (v := .int t_25.2.2) hx hb hg hin_M hown hK hP 0 rfl rfl 27 (by decide) (hg _ gw_521) (fun _ h => h) rfl dM_span_51 ?_
        refine lv_iadd hx hb dM_span_54 ?_
        refine lv_istore hx hb dM_span_55 hl (by decide) rfl (fun ls hl => ?_)
        have hl : lv_has ls 11 [(4, .int (((360 * t_25.1) + (30 * t_25.2.1)) + t_25.2.2)), (0, .ref (b 0)), (1, .int how), (2, .int x), (3, .int y)] := hl
        refine lv_aload_n hx hb dM_span_57 rfl (lv_at hl 1 rfl) ?_
        refine lv_iload_n hx hb dM_span_58 rfl (lv_at hl 4 rfl) ?_
        refine kw_retv0 (va_runV (C := RM) (As := [.int y]) (rest := []) ⟨hx, hb, hml, hown, hg⟩ (c_M_find l D G b σ (t_25.1, t_25.2.1, t_25.2.2) y _) ⟨kw_cB (n := 1) hg gw_590 gw_2 gw_588 (by decide +kernel) (by decide +kernel) ⟨Nat.le_of_ble_eq_true rfl, Nat.le_of_ble_eq_true rfl⟩ rfl rfl, hg _ gw_589, hg _ gw_743⟩ (kw_preV (q0 := 0) hK hP hD rfl rfl) rfl rfl hl.1 rfl (lv_room (Nat.le_of_ble_eq_true rfl)) dM_span_59 ⟨Nat.le_of_ble_eq_true rfl, Nat.le_of_ble_eq_true rfl⟩) hP hD hS (fun _ h => Or.inr h) (fun H locs hP hD hS => ?_)
        obtain ⟨t_28, e_29⟩ : ∃ z : Int32 × Int32 × Int32, kM_find y = z := ⟨_, rfl⟩
        rw [e_29] at hP hD
        refine lv_sipush (v := 360) hx hb dM_span_62 (by decide) ?_
        refine lv_aload_n hx hb dM_span_65 rfl (lv_at hl 1 rfl) ?_
        refine va_get (v := .int t_28.1) hx hb hg hin_M hown hK hP 0 rfl rfl 25 (by decide) (hg _ gw_519) (fun _ h => h) rfl dM_span_66 ?_
        refine lv_imul hx hb dM_span_69 ?_
        refine lv_bipush (v := 30) hx hb dM_span_70 (by decide) ?_
        refine lv_aload_n hx hb dM_span_72 rfl (lv_at hl 1 rfl) ?_
        refine va_get (v := .int t_28.2.1) hx hb hg hin_M hown hK hP 0 rfl rfl 26 (by decide) (hg _ gw_520) (fun _ h => h) rfl dM_span_73 ?_
        refine lv_imul hx hb dM_span_76 ?_
        refine lv_iadd hx hb dM_span_77 ?_
        refine lv_aload_n hx hb dM_span_78 rfl (lv_at hl 1 rfl) ?_
        refine va_get (v := .int t_28.2.2) hx hb hg hin_M hown hK hP 0 rfl rfl 27 (by decide) (hg _ gw_521) (fun _ h => h) rfl dM_span_79 ?_
        refine lv_bipush (v := 30) hx hb dM_span_82 (by decide) ?_
        refine lv_icmp_le (tgt := 92) hx hb dM_span_84 (by decide) (fun h30 => ?_) (fun h30 => ?_)
        · skip
          refine lv_aload_n hx hb dM_span_92 rfl (lv_at hl 1 rfl) ?_
          refine va_get (v := .int t_28.2.2) hx hb hg hin_M hown hK hP 0 rfl rfl 27 (by decide) (hg _ gw_521) (fun _ h => h) rfl dM_span_93 ?_
          refine lv_iadd hx hb dM_span_96 ?_
          refine lv_iload hx hb dM_span_97 (lv_at hl 0 rfl) ?_
          refine lv_isub hx hb dM_span_99 ?_
          refine lv_i2l hx hb dM_span_100 rfl ?_
          have hk9 : kM_span how x y = ((((360 * t_28.1) + (30 * t_28.2.1)) + t_28.2.2) - (((360 * t_25.1) + (30 * t_25.2.1)) + t_25.2.2)).toInt64 := by subst e_26 e_29; unfold kM_span; rw [if_pos h1, if_pos h2, if_pos h27, if_pos h30]
          exact kx_lret hx hb hr hlocks hK hP hD hS hk9.symm (u := (t_28.1, t_28.2.1, t_28.2.2)) rfl dM_span_101
        · skip
          refine lv_bipush (v := 30) hx hb dM_span_87 (by decide) ?_
          refine lv_goto (tgt := 96) hx hb dM_span_89 (by decide) ?_
          refine lv_iadd hx hb dM_span_96 ?_
          refine lv_iload hx hb dM_span_97 (lv_at hl 0 rfl) ?_
          refine lv_isub hx hb dM_span_99 ?_
          refine lv_i2l hx hb dM_span_100 rfl ?_
          have hk9 : kM_span how x y = ((((360 * t_28.1) + (30 * t_28.2.1)) + 30) - (((360 * t_25.1) + (30 * t_25.2.1)) + t_25.2.2)).toInt64 := by subst e_26 e_29; unfold kM_span; rw [if_pos h1, if_pos h2, if_pos h27, if_neg h30]
          exact kx_lret hx hb hr hlocks hK hP hD hS hk9.symm (u := (t_28.1, t_28.2.1, t_28.2.2)) rfl dM_span_101
      · skip
        refine lv_bipush (v := 30) hx hb dM_span_45 (by decide) ?_
        refine lv_goto (tgt := 54) hx hb dM_span_47 (by decide) ?_
        refine lv_iadd hx hb dM_span_54 ?_
        refine lv_istore hx hb dM_span_55 hl (by decide) rfl (fun ls hl => ?_)
        have hl : lv_has ls 11 [(4, .int (((360 * t_25.1) + (30 * t_25.2.1)) + 30)), (0, .ref (b 0)), (1, .int how), (2, .int x), (3, .int y)] := hl
        refine lv_aload_n hx hb dM_span_57 rfl (lv_at hl 1 rfl) ?_
        refine lv_iload_n hx hb dM_span_58 rfl (lv_at hl 4 rfl) ?_
        refine kw_retv0 (va_runV (C := RM) (As := [.int y]) (rest := []) ⟨hx, hb, hml, hown, hg⟩ (c_M_find l D G b σ (t_25.1, t_25.2.1, t_25.2.2) y _) ⟨kw_cB (n := 1) hg gw_590 gw_2 gw_588 (by decide +kernel) (by decide +kernel) ⟨Nat.le_of_ble_eq_true rfl, Nat.le_of_ble_eq_true rfl⟩ rfl rfl, hg _ gw_589, hg _ gw_743⟩ (kw_preV (q0 := 0) hK hP hD rfl rfl) rfl rfl hl.1 rfl (lv_room (Nat.le_of_ble_eq_true rfl)) dM_span_59 ⟨Nat.le_of_ble_eq_true rfl, Nat.le_of_ble_eq_true rfl⟩) hP hD hS (fun _ h => Or.inr h) (fun H locs hP hD hS => ?_)
        obtain ⟨t_31, e_32⟩ : ∃ z : Int32 × Int32 × Int32, kM_find y = z := ⟨_, rfl⟩
        rw [e_32] at hP hD
        refine lv_sipush (v := 360) hx hb dM_span_62 (by decide) ?_
        refine lv_aload_n hx hb dM_span_65 rfl (lv_at hl 1 rfl) ?_
        refine va_get (v := .int t_31.1) hx hb hg hin_M hown hK hP 0 rfl rfl 25 (by decide) (hg _ gw_519) (fun _ h => h) rfl dM_span_66 ?_
        refine lv_imul hx hb dM_span_69 ?_
        refine lv_bipush (v := 30) hx hb dM_span_70 (by decide) ?_
        refine lv_aload_n hx hb dM_span_72 rfl (lv_at hl 1 rfl) ?_
        refine va_get (v := .int t_31.2.1) hx hb hg hin_M hown hK hP 0 rfl rfl 26 (by decide) (hg _ gw_520) (fun _ h => h) rfl dM_span_73 ?_
        refine lv_imul hx hb dM_span_76 ?_
        refine lv_iadd hx hb dM_span_77 ?_
        refine lv_aload_n hx hb dM_span_78 rfl (lv_at hl 1 rfl) ?_
        refine va_get (v := .int t_31.2.2) hx hb hg hin_M hown hK hP 0 rfl rfl 27 (by decide) (hg _ gw_521) (fun _ h => h) rfl dM_span_79 ?_
        refine lv_bipush (v := 30) hx hb dM_span_82 (by decide) ?_
        refine lv_icmp_le (tgt := 92) hx hb dM_span_84 (by decide) (fun h33 => ?_) (fun h33 => ?_)
        · skip
          refine lv_aload_n hx hb dM_span_92 rfl (lv_at hl 1 rfl) ?_
          refine va_get (v := .int t_31.2.2) hx hb hg hin_M hown hK hP 0 rfl rfl 27 (by decide) (hg _ gw_521) (fun _ h => h) rfl dM_span_93 ?_
          refine lv_iadd hx hb dM_span_96 ?_
          refine lv_iload hx hb dM_span_97 (lv_at hl 0 rfl) ?_
          refine lv_isub hx hb dM_span_99 ?_
          refine lv_i2l hx hb dM_span_100 rfl ?_
          have hk9 : kM_span how x y = ((((360 * t_31.1) + (30 * t_31.2.1)) + t_31.2.2) - (((360 * t_25.1) + (30 * t_25.2.1)) + 30)).toInt64 := by subst e_26 e_32; unfold kM_span; rw [if_pos h1, if_pos h2, if_neg h27, if_pos h33]
          exact kx_lret hx hb hr hlocks hK hP hD hS hk9.symm (u := (t_31.1, t_31.2.1, t_31.2.2)) rfl dM_span_101
        · skip
          refine lv_bipush (v := 30) hx hb dM_span_87 (by decide) ?_
          refine lv_goto (tgt := 96) hx hb dM_span_89 (by decide) ?_
          refine lv_iadd hx hb dM_span_96 ?_
          refine lv_iload hx hb dM_span_97 (lv_at hl 0 rfl) ?_
          refine lv_isub hx hb dM_span_99 ?_
          refine lv_i2l hx hb dM_span_100 rfl ?_
          have hk9 : kM_span how x y = ((((360 * t_31.1) + (30 * t_31.2.1)) + 30) - (((360 * t_25.1) + (30 * t_25.2.1)) + 30)).toInt64 := by subst e_26 e_32; unfold kM_span; rw [if_pos h1, if_pos h2, if_neg h27, if_neg h33]
          exact kx_lret hx hb hr hlocks hK hP hD hS hk9.symm (u := (t_31.1, t_31.2.1, t_31.2.2)) rfl dM_span_101
  · skip
    refine lv_iload_n hx hb dM_span_5 rfl (lv_at hl 3 rfl) ?_
    refine lv_iload_n hx hb dM_span_6 rfl (lv_at hl 2 rfl) ?_
    refine lv_isub hx hb dM_span_7 ?_
    refine lv_i2l hx hb dM_span_8 rfl ?_
    have hk9 : kM_span how x y = (y - x).toInt64 := by unfold kM_span; rw [if_neg h1]
    exact kx_lret hx hb hr hlocks hK hP hD hS hk9.symm (u := (u0.1, u0.2.1, u0.2.2)) rfl dM_span_9
def kM_interestOn (amount : Int32) (per : Int32) (x : Int32) (y : Int32) (how : Int32) (rnd : Int32) : Int32 := (kM_rounded ((amount.toInt64 * per.toInt64) * (kM_span how x y)) (100000 * (kM_under how)) rnd).toInt32
abbrev wgM_interestOn : List Cond := .code yM_interestOn cM_interestOn 7 (some .int) :: GW
abbrev rm_M_interestOn : Room := { frames := 4, cells := 0, slots := 0, locals := 93 }
set_option maxRecDepth 100000 in
set_option maxHeartbeats 4000000 in
theorem c_M_interestOn (l : Launch) (D : va_G) (G : Nat → ClassId) (b : Nat → Nat) (σ : KS) (u0 : Int32 × Int32 × Int32) (amount : Int32) (per : Int32) (x : Int32) (y : Int32) (how : Int32) (rnd : Int32) (sz : Nat) (hby : y ≤ 1073741824) : Met l yM_interestOn wgM_interestOn rm_M_interestOn (kw_Pc D vwCl (gt G) [.ref (b 0), .int amount, .int per, .int x, .int y, .int how, .int rnd] (mcells G b (scr σ u0)) sz) (kx_i D vwCl (gt G) (mcells G b (scr σ u0)) sz (kM_interestOn amount per x y how rnd) (fun u => mcells G b (scr σ u))) 0 0 (va_A (mcells G b (scr σ u0)) sz) := by
  refine Met.ofW (cc := cM_interestOn) (maxL := 7) (ret := (some .int)) (by decide) rfl ?_
  intro p e s m args below meth c s₁ B hml hv
  have hx := B.exec
  have hb := B.bytes
  have hr := B.returns
  have hts := atoms_spec (ws := wgM_interestOn) B.pre
  have hg : ∀ w ∈ GW, w.before args s = true := fun w h => hts w (List.mem_cons_of_mem _ h)
  have hown : s.vm.findClass RM = some m.cls := findClass_of_methodNamed B.named
  have hlocks := B.notSynchronized
  obtain ⟨hv, hsz, hP, hK, hD0⟩ := hv
  subst hsz
  have hD := hD0.self (sz := s.heap.size)
  have hS : va_S (va_A (mcells G b (scr σ u0)) s.heap.size) s.heap s.heap [] := va_S.rf
  refine kw_entry [.ref (b 0), .int amount, .int per, .int x, .int y, .int how, .int rnd] hv (Nat.le_of_ble_eq_true rfl) (fun ls hl => ?_)
  have hl : lv_has ls 7 [(0, .ref (b 0)), (1, .int amount), (2, .int per), (3, .int x), (4, .int y), (5, .int how), (6, .int rnd)] := hl
  refine lv_iload_n hx hb dM_interestOn_0 rfl (lv_at hl 1 rfl) ?_
  refine lv_i2l hx hb dM_interestOn_1 rfl ?_
  refine lv_iload_n hx hb dM_interestOn_2 rfl (lv_at hl 2 rfl) ?_
  refine lv_i2l hx hb dM_interestOn_3 rfl ?_
  refine lv_lmul hx hb dM_interestOn_4 ?_
  refine lv_aload_n hx hb dM_interestOn_5 rfl (lv_at hl 0 rfl) ?_
  refine lv_iload hx hb dM_interestOn_6 (lv_at hl 5 rfl) ?_
  refine lv_iload_n hx hb dM_interestOn_8 rfl (lv_at hl 3 rfl) ?_
  refine lv_iload hx hb dM_interestOn_9 (lv_at hl 4 rfl) ?_
  refine kx_retl0 (va_runV (C := RM) (As := [.int how, .int x, .int y]) (rest := [.long (amount.toInt64 * per.toInt64)]) ⟨hx, hb, hml, hown, hg⟩ (c_M_span l D G b σ (u0.1, u0.2.1, u0.2.2) how x y _ hby) ⟨kw_cB (n := 3) hg gw_610 gw_2 gw_608 (by decide +kernel) (by decide +kernel) ⟨Nat.le_of_ble_eq_true rfl, Nat.le_of_ble_eq_true rfl⟩ rfl rfl, hg _ gw_609, hg _ gw_745⟩ (kw_preV (q0 := 0) hK hP hD rfl rfl) rfl rfl hl.1 rfl (lv_room (Nat.le_of_ble_eq_true rfl)) dM_interestOn_11 ⟨Nat.le_of_ble_eq_true rfl, Nat.le_of_ble_eq_true rfl⟩) hP hD hS (fun _ h => Or.inr h) (fun u_1 u_2 u_3 H locs hP hD hS => ?_)
  refine lv_topl (fun r_4 e_5 => ?_)
  replace e_5 := e_5.symm
  refine lv_lmul hx hb dM_interestOn_14 ?_
  refine lv_ldc2 (v := 100000) hx hb hown (hg _ gw_613) dM_interestOn_15 ?_
  refine lv_iload hx hb dM_interestOn_18 (lv_at hl 5 rfl) ?_
  refine kp_retl (va_runS (As := [.int how]) (rest := [.long 100000, .long ((amount.toInt64 * per.toInt64) * r_4)]) ⟨hx, hb, hml, hown, hg⟩ (c_M_under l how) ⟨kw_cB (n := 1) hg gw_616 gw_2 gw_614 (by decide +kernel) (by decide +kernel) ⟨Nat.le_of_ble_eq_true rfl, Nat.le_of_ble_eq_true rfl⟩ rfl rfl, hg _ gw_615⟩ kp_pre rfl rfl hl.1 rfl (lv_room (Nat.le_of_ble_eq_true rfl)) dM_interestOn_20 ⟨Nat.le_of_ble_eq_true rfl, Nat.le_of_ble_eq_true rfl⟩) ?_
  refine lv_topl (fun r_6 e_7 => ?_)
  replace e_7 := e_7.symm
  refine lv_lmul hx hb dM_interestOn_23 ?_
  refine lv_iload hx hb dM_interestOn_24 (lv_at hl 6 rfl) ?_
  refine kp_retl (va_runS (As := [.long ((amount.toInt64 * per.toInt64) * r_4), .long (100000 * r_6), .int rnd]) (rest := []) ⟨hx, hb, hml, hown, hg⟩ (c_M_rounded l ((amount.toInt64 * per.toInt64) * r_4) (100000 * r_6) rnd (by subst e_5 e_7; exact kx_under how)) ⟨kw_cB (n := 3) hg gw_621 gw_2 gw_619 (by decide +kernel) (by decide +kernel) ⟨Nat.le_of_ble_eq_true rfl, Nat.le_of_ble_eq_true rfl⟩ rfl rfl, hg _ gw_620⟩ kp_pre rfl rfl hl.1 rfl (lv_room (Nat.le_of_ble_eq_true rfl)) dM_interestOn_26 ⟨Nat.le_of_ble_eq_true rfl, Nat.le_of_ble_eq_true rfl⟩) ?_
  refine lv_topl (fun r_8 e_9 => ?_)
  replace e_9 := e_9.symm
  refine lv_l2i hx hb dM_interestOn_29 rfl ?_
  have hk9 : kM_interestOn amount per x y how rnd = r_8.toInt32 := by subst e_5 e_7 e_9; rfl
  exact kx_iret hx hb hr hlocks hK hP hD hS hk9.symm (u := (u_1, u_2, u_3)) rfl dM_interestOn_30
def kM_own (σ : KS) (ln : Int32) (amount : Int32) (x : Int32) (y : Int32) : Int32 := (kM_interestOn amount (σ 2 ln.toNatClampNeg) x y (σ 4 ln.toNatClampNeg) (σ 5 ln.toNatClampNeg))
abbrev wgM_own : List Cond := .code yM_own cM_own 5 (some .int) :: GW
abbrev rm_M_own : Room := { frames := 5, cells := 0, slots := 0, locals := 119 }
set_option maxRecDepth 100000 in
set_option maxHeartbeats 4000000 in
theorem c_M_own (l : Launch) (D : va_G) (G : Nat → ClassId) (b : Nat → Nat) (σ : KS) (u0 : Int32 × Int32 × Int32) (ln : Int32) (amount : Int32) (x : Int32) (y : Int32) (sz : Nat) (hln : vp_in ln 3) (hby : y ≤ 1073741824) : Met l yM_own wgM_own rm_M_own (kw_Pc D vwCl (gt G) [.ref (b 0), .int ln, .int amount, .int x, .int y] (mcells G b (scr σ u0)) sz) (kx_i D vwCl (gt G) (mcells G b (scr σ u0)) sz (kM_own σ ln amount x y) (fun u => mcells G b (scr σ u))) 0 0 (va_A (mcells G b (scr σ u0)) sz) := by
  refine Met.ofW (cc := cM_own) (maxL := 5) (ret := (some .int)) (by decide) rfl ?_
  intro p e s m args below meth c s₁ B hml hv
  have hx := B.exec
  have hb := B.bytes
  have hr := B.returns
  have hts := atoms_spec (ws := wgM_own) B.pre
  have hg : ∀ w ∈ GW, w.before args s = true := fun w h => hts w (List.mem_cons_of_mem _ h)
  have hown : s.vm.findClass RM = some m.cls := findClass_of_methodNamed B.named
  have hlocks := B.notSynchronized
  obtain ⟨hv, hsz, hP, hK, hD0⟩ := hv
  subst hsz
  have hD := hD0.self (sz := s.heap.size)
  have hS : va_S (va_A (mcells G b (scr σ u0)) s.heap.size) s.heap s.heap [] := va_S.rf
  refine kw_entry [.ref (b 0), .int ln, .int amount, .int x, .int y] hv (Nat.le_of_ble_eq_true rfl) (fun ls hl => ?_)
  have hl : lv_has ls 5 [(0, .ref (b 0)), (1, .int ln), (2, .int amount), (3, .int x), (4, .int y)] := hl
  refine lv_aload_n hx hb dM_own_0 rfl (lv_at hl 0 rfl) ?_
  refine lv_iload_n hx hb dM_own_1 rfl (lv_at hl 2 rfl) ?_
  refine lv_aload_n hx hb dM_own_2 rfl (lv_at hl 0 rfl) ?_
  refine va_get (v := .ref (b 4)) hx hb hg hin_M hown hK hP 0 rfl rfl 4 (by decide) (hg _ gw_498) (fun _ h => h) rfl dM_own_3 ?_
  refine lv_iload_n hx hb dM_own_6 rfl (lv_at hl 1 rfl) ?_
  refine kw_iald (v := σ 2 ln.toNatClampNeg) (j := ln.toNatClampNeg) hx hb hK hP 2 0 rfl rfl hln rfl rfl dM_own_7 ?_
  refine lv_iload_n hx hb dM_own_8 rfl (lv_at hl 3 rfl) ?_
  refine lv_iload hx hb dM_own_9 (lv_at hl 4 rfl) ?_
  refine lv_aload_n hx hb dM_own_11 rfl (lv_at hl 0 rfl) ?_
  refine va_get (v := .ref (b 6)) hx hb hg hin_M hown hK hP 0 rfl rfl 6 (by decide) (hg _ gw_500) (fun _ h => h) rfl dM_own_12 ?_
  refine lv_iload_n hx hb dM_own_15 rfl (lv_at hl 1 rfl) ?_
  refine kw_iald (v := σ 4 ln.toNatClampNeg) (j := ln.toNatClampNeg) hx hb hK hP 4 0 rfl rfl hln rfl rfl dM_own_16 ?_
  refine lv_aload_n hx hb dM_own_17 rfl (lv_at hl 0 rfl) ?_
  refine va_get (v := .ref (b 7)) hx hb hg hin_M hown hK hP 0 rfl rfl 7 (by decide) (hg _ gw_501) (fun _ h => h) rfl dM_own_18 ?_
  refine lv_iload_n hx hb dM_own_21 rfl (lv_at hl 1 rfl) ?_
  refine kw_iald (v := σ 5 ln.toNatClampNeg) (j := ln.toNatClampNeg) hx hb hK hP 5 0 rfl rfl hln rfl rfl dM_own_22 ?_
  refine kx_reti0 (va_runV (C := RM) (As := [.int amount, .int (σ 2 ln.toNatClampNeg), .int x, .int y, .int (σ 4 ln.toNatClampNeg), .int (σ 5 ln.toNatClampNeg)]) (rest := []) ⟨hx, hb, hml, hown, hg⟩ (c_M_interestOn l D G b σ (u0.1, u0.2.1, u0.2.2) amount (σ 2 ln.toNatClampNeg) x y (σ 4 ln.toNatClampNeg) (σ 5 ln.toNatClampNeg) _ hby) ⟨kw_cB (n := 6) hg gw_607 gw_2 gw_605 (by decide +kernel) (by decide +kernel) ⟨Nat.le_of_ble_eq_true rfl, Nat.le_of_ble_eq_true rfl⟩ rfl rfl, hg _ gw_606, hg _ gw_744⟩ (kw_preV (q0 := 0) hK hP hD rfl rfl) rfl rfl hl.1 rfl (lv_room (Nat.le_of_ble_eq_true rfl)) dM_own_23 ⟨Nat.le_of_ble_eq_true rfl, Nat.le_of_ble_eq_true rfl⟩) hP hD hS (fun _ h => Or.inr h) (fun u_1 u_2 u_3 H locs hP hD hS => ?_)
  refine lv_topi (fun r_4 e_5 => ?_)
  replace e_5 := e_5.symm
  have hk9 : kM_own σ ln amount x y = r_4 := by subst e_5; rfl
  exact kx_iret hx hb hr hlocks hK hP hD hS hk9.symm (u := (u_1, u_2, u_3)) rfl dM_own_26
def kM_monthsSince (σ : KS) (ln : Int32) : Int32 := (((12 * (kM_find (σ 0 1)).1) + (kM_find (σ 0 1)).2.1) - (12 * (kM_find (σ 1 ln.toNatClampNeg)).1)) - (kM_find (σ 1 ln.toNatClampNeg)).2.1
abbrev wgM_monthsSince : List Cond := .code yM_monthsSince cM_monthsSince 3 (some .int) :: GW
abbrev rm_M_monthsSince : Room := { frames := 3, cells := 0, slots := 0, locals := 63 }
set_option maxRecDepth 100000 in
set_option maxHeartbeats 4000000 in
theorem c_M_monthsSince (l : Launch) (D : va_G) (G : Nat → ClassId) (b : Nat → Nat) (σ : KS) (u0 : Int32 × Int32 × Int32) (ln : Int32) (sz : Nat) (hln : vp_in ln 3) : Met l yM_monthsSince wgM_monthsSince rm_M_monthsSince (kw_Pc D vwCl (gt G) [.ref (b 0), .int ln] (mcells G b (scr σ u0)) sz) (kx_i D vwCl (gt G) (mcells G b (scr σ u0)) sz (kM_monthsSince σ ln) (fun u => mcells G b (scr σ u))) 0 0 (va_A (mcells G b (scr σ u0)) sz) := by
  refine Met.ofW (cc := cM_monthsSince) (maxL := 3) (ret := (some .int)) (by decide) rfl ?_
  intro p e s m args below meth c s₁ B hml hv
  have hx := B.exec
  have hb := B.bytes
  have hr := B.returns
  have hts := atoms_spec (ws := wgM_monthsSince) B.pre
  have hg : ∀ w ∈ GW, w.before args s = true := fun w h => hts w (List.mem_cons_of_mem _ h)
  have hown : s.vm.findClass RM = some m.cls := findClass_of_methodNamed B.named
  have hlocks := B.notSynchronized
  obtain ⟨hv, hsz, hP, hK, hD0⟩ := hv
  subst hsz
  have hD := hD0.self (sz := s.heap.size)
  have hS : va_S (va_A (mcells G b (scr σ u0)) s.heap.size) s.heap s.heap [] := va_S.rf
  refine kw_entry [.ref (b 0), .int ln] hv (Nat.le_of_ble_eq_true rfl) (fun ls hl => ?_)
  have hl : lv_has ls 3 [(0, .ref (b 0)), (1, .int ln)] := hl
  refine lv_aload_n hx hb dM_monthsSince_0 rfl (lv_at hl 0 rfl) ?_
  refine lv_aload_n hx hb dM_monthsSince_1 rfl (lv_at hl 0 rfl) ?_
  refine va_get (v := .int (σ 0 1)) hx hb hg hin_M hown hK hP 0 rfl rfl 1 (by decide) (hg _ gw_495) (fun _ h => h) rfl dM_monthsSince_2 ?_
  refine kw_retv0 (va_runV (C := RM) (As := [.int (σ 0 1)]) (rest := []) ⟨hx, hb, hml, hown, hg⟩ (c_M_find l D G b σ (u0.1, u0.2.1, u0.2.2) (σ 0 1) _) ⟨kw_cB (n := 1) hg gw_590 gw_2 gw_588 (by decide +kernel) (by decide +kernel) ⟨Nat.le_of_ble_eq_true rfl, Nat.le_of_ble_eq_true rfl⟩ rfl rfl, hg _ gw_589, hg _ gw_743⟩ (kw_preV (q0 := 0) hK hP hD rfl rfl) rfl rfl hl.1 rfl (lv_room (Nat.le_of_ble_eq_true rfl)) dM_monthsSince_5 ⟨Nat.le_of_ble_eq_true rfl, Nat.le_of_ble_eq_true rfl⟩) hP hD hS (fun _ h => Or.inr h) (fun H locs hP hD hS => ?_)
  obtain ⟨t_1, e_2⟩ : ∃ z : Int32 × Int32 × Int32, kM_find (σ 0 1) = z := ⟨_, rfl⟩
  rw [e_2] at hP hD
  refine lv_bipush (v := 12) hx hb dM_monthsSince_8 (by decide) ?_
  refine lv_aload_n hx hb dM_monthsSince_10 rfl (lv_at hl 0 rfl) ?_
  refine va_get (v := .int t_1.1) hx hb hg hin_M hown hK hP 0 rfl rfl 25 (by decide) (hg _ gw_519) (fun _ h => h) rfl dM_monthsSince_11 ?_
  refine lv_imul hx hb dM_monthsSince_14 ?_
  refine lv_aload_n hx hb dM_monthsSince_15 rfl (lv_at hl 0 rfl) ?_
  refine va_get (v := .int t_1.2.1) hx hb hg hin_M hown hK hP 0 rfl rfl 26 (by decide) (hg _ gw_520) (fun _ h => h) rfl dM_monthsSince_16 ?_
  refine lv_iadd hx hb dM_monthsSince_19 ?_
  refine lv_istore_n hx hb dM_monthsSince_20 rfl hl (by decide) rfl (fun ls hl => ?_)
  have hl : lv_has ls 3 [(2, .int ((12 * t_1.1) + t_1.2.1)), (0, .ref (b 0)), (1, .int ln)] := hl
  refine lv_aload_n hx hb dM_monthsSince_21 rfl (lv_at hl 1 rfl) ?_
  refine lv_aload_n hx hb dM_monthsSince_22 rfl (lv_at hl 1 rfl) ?_
  refine va_get (v := .ref (b 3)) hx hb hg hin_M hown hK hP 0 rfl rfl 3 (by decide) (hg _ gw_497) (fun _ h => h) rfl dM_monthsSince_23 ?_
  refine lv_iload_n hx hb dM_monthsSince_26 rfl (lv_at hl 2 rfl) ?_
  refine kw_iald (v := σ 1 ln.toNatClampNeg) (j := ln.toNatClampNeg) hx hb hK hP 1 0 rfl rfl hln rfl rfl dM_monthsSince_27 ?_
  refine kw_retv0 (va_runV (C := RM) (As := [.int (σ 1 ln.toNatClampNeg)]) (rest := []) ⟨hx, hb, hml, hown, hg⟩ (c_M_find l D G b σ (t_1.1, t_1.2.1, t_1.2.2) (σ 1 ln.toNatClampNeg) _) ⟨kw_cB (n := 1) hg gw_590 gw_2 gw_588 (by decide +kernel) (by decide +kernel) ⟨Nat.le_of_ble_eq_true rfl, Nat.le_of_ble_eq_true rfl⟩ rfl rfl, hg _ gw_589, hg _ gw_743⟩ (kw_preV (q0 := 0) hK hP hD rfl rfl) rfl rfl hl.1 rfl (lv_room (Nat.le_of_ble_eq_true rfl)) dM_monthsSince_28 ⟨Nat.le_of_ble_eq_true rfl, Nat.le_of_ble_eq_true rfl⟩) hP hD hS (fun _ h => Or.inr h) (fun H locs hP hD hS => ?_)
  obtain ⟨t_3, e_4⟩ : ∃ z : Int32 × Int32 × Int32, kM_find (σ 1 ln.toNatClampNeg) = z := ⟨_, rfl⟩
  rw [e_4] at hP hD
  refine lv_iload_n hx hb dM_monthsSince_31 rfl (lv_at hl 0 rfl) ?_
  refine lv_bipush (v := 12) hx hb dM_monthsSince_32 (by decide) ?_
  refine lv_aload_n hx hb dM_monthsSince_34 rfl (lv_at hl 1 rfl) ?_
  refine va_get (v := .int t_3.1) hx hb hg hin_M hown hK hP 0 rfl rfl 25 (by decide) (hg _ gw_519) (fun _ h => h) rfl dM_monthsSince_35 ?_
  refine lv_imul hx hb dM_monthsSince_38 ?_
  refine lv_isub hx hb dM_monthsSince_39 ?_
  refine lv_aload_n hx hb dM_monthsSince_40 rfl (lv_at hl 1 rfl) ?_
  refine va_get (v := .int t_3.2.1) hx hb hg hin_M hown hK hP 0 rfl rfl 26 (by decide) (hg _ gw_520) (fun _ h => h) rfl dM_monthsSince_41 ?_
  refine lv_isub hx hb dM_monthsSince_44 ?_
  have hk9 : kM_monthsSince σ ln = (((12 * t_1.1) + t_1.2.1) - (12 * t_3.1)) - t_3.2.1 := by subst e_2 e_4; rfl
  exact kx_iret hx hb hr hlocks hK hP hD hS hk9.symm (u := (t_3.1, t_3.2.1, t_3.2.2)) rfl dM_monthsSince_45
def kM_firstBehind (σ : KS) (ln : Int32) : Int32 := if (kM_monthsSince σ ln) < (1 : Int32) then ((kM_monthsSince σ ln) + 1) else (if (σ 0 1) < (kM_dueDay (σ 1 ln.toNatClampNeg) (kM_monthsSince σ ln)) then (kM_monthsSince σ ln) else ((kM_monthsSince σ ln) + 1))
abbrev wgM_firstBehind : List Cond := .code yM_firstBehind cM_firstBehind 3 (some .int) :: GW
abbrev rm_M_firstBehind : Room := { frames := 4, cells := 0, slots := 0, locals := 91 }
set_option maxRecDepth 100000 in
set_option maxHeartbeats 4000000 in
theorem c_M_firstBehind (l : Launch) (D : va_G) (G : Nat → ClassId) (b : Nat → Nat) (σ : KS) (u0 : Int32 × Int32 × Int32) (ln : Int32) (sz : Nat) (hln : vp_in ln 3) : Met l yM_firstBehind wgM_firstBehind rm_M_firstBehind (kw_Pc D vwCl (gt G) [.ref (b 0), .int ln] (mcells G b (scr σ u0)) sz) (kx_i D vwCl (gt G) (mcells G b (scr σ u0)) sz (kM_firstBehind σ ln) (fun u => mcells G b (scr σ u))) 0 0 (va_A (mcells G b (scr σ u0)) sz) := by
  refine Met.ofW (cc := cM_firstBehind) (maxL := 3) (ret := (some .int)) (by decide) rfl ?_
  intro p e s m args below meth c s₁ B hml hv
  have hx := B.exec
  have hb := B.bytes
  have hr := B.returns
  have hts := atoms_spec (ws := wgM_firstBehind) B.pre
  have hg : ∀ w ∈ GW, w.before args s = true := fun w h => hts w (List.mem_cons_of_mem _ h)
  have hown : s.vm.findClass RM = some m.cls := findClass_of_methodNamed B.named
  have hlocks := B.notSynchronized
  obtain ⟨hv, hsz, hP, hK, hD0⟩ := hv
  subst hsz
  have hD := hD0.self (sz := s.heap.size)
  have hS : va_S (va_A (mcells G b (scr σ u0)) s.heap.size) s.heap s.heap [] := va_S.rf
  refine kw_entry [.ref (b 0), .int ln] hv (Nat.le_of_ble_eq_true rfl) (fun ls hl => ?_)
  have hl : lv_has ls 3 [(0, .ref (b 0)), (1, .int ln)] := hl
  refine lv_aload_n hx hb dM_firstBehind_0 rfl (lv_at hl 0 rfl) ?_
  refine lv_iload_n hx hb dM_firstBehind_1 rfl (lv_at hl 1 rfl) ?_
  refine kx_reti0 (va_runV (C := RM) (As := [.int ln]) (rest := []) ⟨hx, hb, hml, hown, hg⟩ (c_M_monthsSince l D G b σ (u0.1, u0.2.1, u0.2.2) ln _ hln) ⟨kw_cB (n := 1) hg gw_635 gw_2 gw_633 (by decide +kernel) (by decide +kernel) ⟨Nat.le_of_ble_eq_true rfl, Nat.le_of_ble_eq_true rfl⟩ rfl rfl, hg _ gw_634, hg _ gw_748⟩ (kw_preV (q0 := 0) hK hP hD rfl rfl) rfl rfl hl.1 rfl (lv_room (Nat.le_of_ble_eq_true rfl)) dM_firstBehind_2 ⟨Nat.le_of_ble_eq_true rfl, Nat.le_of_ble_eq_true rfl⟩) hP hD hS (fun _ h => Or.inr h) (fun u_1 u_2 u_3 H locs hP hD hS => ?_)
  refine lv_topi (fun r_4 e_5 => ?_)
  replace e_5 := e_5.symm
  refine lv_istore_n hx hb dM_firstBehind_5 rfl hl (by decide) rfl (fun ls hl => ?_)
  have hl : lv_has ls 3 [(2, .int r_4), (0, .ref (b 0)), (1, .int ln)] := hl
  refine lv_iload_n hx hb dM_firstBehind_6 rfl (lv_at hl 0 rfl) ?_
  refine lv_iconst (v := 1) hx hb dM_firstBehind_7 (by decide) ?_
  refine lv_icmp_lt (tgt := 29) hx hb dM_firstBehind_8 (by decide) (fun h6 => ?_) (fun h6 => ?_)
  · skip
    refine lv_iload_n hx hb dM_firstBehind_29 rfl (lv_at hl 0 rfl) ?_
    refine lv_iconst (v := 1) hx hb dM_firstBehind_30 (by decide) ?_
    refine lv_iadd hx hb dM_firstBehind_31 ?_
    refine lv_goto (tgt := 36) hx hb dM_firstBehind_32 (by decide) ?_
    have hk9 : kM_firstBehind σ ln = r_4 + 1 := by subst e_5; unfold kM_firstBehind; rw [if_pos h6]
    exact kx_iret hx hb hr hlocks hK hP hD hS hk9.symm (u := (u_1, u_2, u_3)) rfl dM_firstBehind_36
  · skip
    refine lv_aload_n hx hb dM_firstBehind_11 rfl (lv_at hl 1 rfl) ?_
    refine lv_aload_n hx hb dM_firstBehind_12 rfl (lv_at hl 1 rfl) ?_
    refine va_get (v := .ref (b 3)) hx hb hg hin_M hown hK hP 0 rfl rfl 3 (by decide) (hg _ gw_497) (fun _ h => h) rfl dM_firstBehind_13 ?_
    refine lv_iload_n hx hb dM_firstBehind_16 rfl (lv_at hl 2 rfl) ?_
    refine kw_iald (v := σ 1 ln.toNatClampNeg) (j := ln.toNatClampNeg) hx hb hK hP 1 0 rfl rfl hln rfl rfl dM_firstBehind_17 ?_
    refine lv_iload_n hx hb dM_firstBehind_18 rfl (lv_at hl 0 rfl) ?_
    refine kx_reti0 (va_runV (C := RM) (As := [.int (σ 1 ln.toNatClampNeg), .int r_4]) (rest := []) ⟨hx, hb, hml, hown, hg⟩ (c_M_dueDay l D G b σ (u_1, u_2, u_3) (σ 1 ln.toNatClampNeg) r_4 _) ⟨kw_cB (n := 2) hg gw_638 gw_2 gw_636 (by decide +kernel) (by decide +kernel) ⟨Nat.le_of_ble_eq_true rfl, Nat.le_of_ble_eq_true rfl⟩ rfl rfl, hg _ gw_637, hg _ gw_749⟩ (kw_preV (q0 := 0) hK hP hD rfl rfl) rfl rfl hl.1 rfl (lv_room (Nat.le_of_ble_eq_true rfl)) dM_firstBehind_19 ⟨Nat.le_of_ble_eq_true rfl, Nat.le_of_ble_eq_true rfl⟩) hP hD hS (fun _ h => Or.inr h) (fun u_7 u_8 u_9 H locs hP hD hS => ?_)
    refine lv_topi (fun r_10 e_11 => ?_)
    replace e_11 := e_11.symm
    refine lv_aload_n hx hb dM_firstBehind_22 rfl (lv_at hl 1 rfl) ?_
    refine va_get (v := .int (σ 0 1)) hx hb hg hin_M hown hK hP 0 rfl rfl 1 (by decide) (hg _ gw_495) (fun _ h => h) rfl dM_firstBehind_23 ?_
    refine lv_icmp_gt (tgt := 35) hx hb dM_firstBehind_26 (by decide) (fun h12 => ?_) (fun h12 => ?_)
    · skip
      refine lv_iload_n hx hb dM_firstBehind_35 rfl (lv_at hl 0 rfl) ?_
      have hk9 : kM_firstBehind σ ln = r_4 := by subst e_5 e_11; unfold kM_firstBehind; rw [if_neg h6, if_pos h12]
      exact kx_iret hx hb hr hlocks hK hP hD hS hk9.symm (u := (u_7, u_8, u_9)) rfl dM_firstBehind_36
    · skip
      refine lv_iload_n hx hb dM_firstBehind_29 rfl (lv_at hl 0 rfl) ?_
      refine lv_iconst (v := 1) hx hb dM_firstBehind_30 (by decide) ?_
      refine lv_iadd hx hb dM_firstBehind_31 ?_
      refine lv_goto (tgt := 36) hx hb dM_firstBehind_32 (by decide) ?_
      have hk9 : kM_firstBehind σ ln = r_4 + 1 := by subst e_5 e_11; unfold kM_firstBehind; rw [if_neg h6, if_neg h12]
      exact kx_iret hx hb hr hlocks hK hP hD hS hk9.symm (u := (u_7, u_8, u_9)) rfl dM_firstBehind_36
