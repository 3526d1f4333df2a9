/-! they are among the tables' -/
set_option maxRecDepth 20000 in
theorem gt_0 : (.initialized RL : Cond) ∈ lw_tbl := List.mem_append_right _ (List.mem_of_getElem? (i := 0) rfl)
set_option maxRecDepth 20000 in
theorem gt_1 : (.initialized RD : Cond) ∈ lw_tbl := List.mem_append_right _ (List.mem_of_getElem? (i := 1) rfl)
set_option maxRecDepth 20000 in
theorem gt_2 : (.initialized RM : Cond) ∈ lw_tbl := List.mem_append_right _ (List.mem_of_getElem? (i := 2) rfl)
set_option maxRecDepth 20000 in
theorem gt_3 : (.initialized "java/lang/Throwable" : Cond) ∈ lw_tbl := List.mem_append_right _ (List.mem_of_getElem? (i := 3) rfl)
set_option maxRecDepth 20000 in
theorem gt_4 : (.initialized "java/lang/Exception" : Cond) ∈ lw_tbl := List.mem_append_right _ (List.mem_of_getElem? (i := 4) rfl)
set_option maxRecDepth 20000 in
theorem gt_5 : (.initialized "java/lang/RuntimeException" : Cond) ∈ lw_tbl := List.mem_append_right _ (List.mem_of_getElem? (i := 5) rfl)
set_option maxRecDepth 20000 in
theorem gt_6 : (.initialized "java/lang/IllegalArgumentException" : Cond) ∈ lw_tbl := List.mem_append_right _ (List.mem_of_getElem? (i := 6) rfl)
set_option maxRecDepth 20000 in
theorem gt_7 : (.initialized "java/lang/IllegalStateException" : Cond) ∈ lw_tbl := List.mem_append_right _ (List.mem_of_getElem? (i := 7) rfl)
set_option maxRecDepth 20000 in
theorem gt_8 : (.initialized RT : Cond) ∈ lw_tbl := List.mem_append_right _ (List.mem_of_getElem? (i := 8) rfl)
set_option maxRecDepth 20000 in
theorem gt_9 : (.initialized RY : Cond) ∈ lw_tbl := List.mem_append_right _ (List.mem_of_getElem? (i := 9) rfl)
set_option maxRecDepth 20000 in
theorem gt_10 : (.initialized RN : Cond) ∈ lw_tbl := List.mem_append_right _ (List.mem_of_getElem? (i := 10) rfl)
set_option maxRecDepth 20000 in
theorem gt_11 : (.initialized RA : Cond) ∈ lw_tbl := List.mem_append_right _ (List.mem_of_getElem? (i := 11) rfl)
set_option maxRecDepth 20000 in
theorem gt_12 : (.initialized RB : Cond) ∈ lw_tbl := List.mem_append_right _ (List.mem_of_getElem? (i := 12) rfl)
set_option maxRecDepth 20000 in
theorem gt_13 : (.initialized "java/lang/Math" : Cond) ∈ lw_tbl := List.mem_append_right _ (List.mem_of_getElem? (i := 13) rfl)
set_option maxRecDepth 20000 in
theorem gt_14 : (.initialized RS : Cond) ∈ lw_tbl := List.mem_append_right _ (List.mem_of_getElem? (i := 14) rfl)
set_option maxRecDepth 20000 in
theorem gt_15 : (.initialized RC : Cond) ∈ lw_tbl := List.mem_append_right _ (List.mem_of_getElem? (i := 15) rfl)
set_option maxRecDepth 20000 in
theorem gt_16 : (.initialized "java/lang/IndexOutOfBoundsException" : Cond) ∈ lw_tbl := List.mem_append_right _ (List.mem_of_getElem? (i := 16) rfl)
set_option maxRecDepth 20000 in
theorem gt_17 : (.initialized "java/util/NoSuchElementException" : Cond) ∈ lw_tbl := List.mem_append_right _ (List.mem_of_getElem? (i := 17) rfl)
set_option maxRecDepth 20000 in
theorem gt_18 : (.classLink RL 8 RD : Cond) ∈ lw_tbl := List.mem_append_right _ (List.mem_of_getElem? (i := 18) rfl)
set_option maxRecDepth 20000 in
theorem gt_19 : (.instantiable RD 3 : Cond) ∈ lw_tbl := List.mem_append_right _ (List.mem_of_getElem? (i := 19) rfl)
set_option maxRecDepth 20000 in
theorem gt_20 : (.methodLink RL 68 yD_init : Cond) ∈ lw_tbl := List.mem_append_right _ (List.mem_of_getElem? (i := 20) rfl)
set_option maxRecDepth 20000 in
theorem gt_21 : (.instanceMethod yD_init : Cond) ∈ lw_tbl := List.mem_append_right _ (List.mem_of_getElem? (i := 21) rfl)
set_option maxRecDepth 20000 in
theorem gt_22 : (.code yD_init cD_init 1 none : Cond) ∈ lw_tbl := List.mem_append_right _ (List.mem_of_getElem? (i := 22) rfl)
set_option maxRecDepth 20000 in
theorem gt_23 : (.methodLink RD 1 objectInit : Cond) ∈ lw_tbl := List.mem_append_right _ (List.mem_of_getElem? (i := 23) rfl)
set_option maxRecDepth 20000 in
theorem gt_24 : (.instanceMethod objectInit : Cond) ∈ lw_tbl := List.mem_append_right _ (List.mem_of_getElem? (i := 24) rfl)
set_option maxRecDepth 20000 in
theorem gt_25 : (.code objectInit ⟨#[0xb1]⟩ 1 none : Cond) ∈ lw_tbl := List.mem_append_right _ (List.mem_of_getElem? (i := 25) rfl)
set_option maxRecDepth 20000 in
theorem gt_26 : (.classLink RD 9 RN : Cond) ∈ lw_tbl := List.mem_append_right _ (List.mem_of_getElem? (i := 26) rfl)
set_option maxRecDepth 20000 in
theorem gt_27 : (.fieldLink RD 11 "LoanDesk" "loans" "[LLoanDesk$Loan;" : Cond) ∈ lw_tbl := List.mem_append_right _ (List.mem_of_getElem? (i := 28) rfl)
set_option maxRecDepth 20000 in
theorem gt_28 : (.fieldLink RD 15 "LoanDesk" "loanCount" "I" : Cond) ∈ lw_tbl := List.mem_append_right _ (List.mem_of_getElem? (i := 29) rfl)
set_option maxRecDepth 20000 in
theorem gt_29 : (.fieldLink RD 19 "LoanDesk" "today" "I" : Cond) ∈ lw_tbl := List.mem_append_right _ (List.mem_of_getElem? (i := 30) rfl)
set_option maxRecDepth 20000 in
theorem gt_30 : (.laysFinal RD "LoanDesk" "loans" "[LLoanDesk$Loan;" : Cond) ∈ lw_tbl := List.mem_append_right _ (List.mem_of_getElem? (i := 31) rfl)
set_option maxRecDepth 20000 in
theorem gt_31 : ((Jvm.Cond.soleField "LoanDesk" "loans") : Cond) ∈ lw_tbl := List.mem_append_right _ (List.mem_of_getElem? (i := 32) rfl)
set_option maxRecDepth 20000 in
theorem gt_32 : (.lays RD "LoanDesk" "loanCount" "I" : Cond) ∈ lw_tbl := List.mem_append_right _ (List.mem_of_getElem? (i := 33) rfl)
set_option maxRecDepth 20000 in
theorem gt_33 : ((Jvm.Cond.soleField "LoanDesk" "loanCount") : Cond) ∈ lw_tbl := List.mem_append_right _ (List.mem_of_getElem? (i := 34) rfl)
set_option maxRecDepth 20000 in
theorem gt_34 : (.lays RD "LoanDesk" "today" "I" : Cond) ∈ lw_tbl := List.mem_append_right _ (List.mem_of_getElem? (i := 35) rfl)
set_option maxRecDepth 20000 in
theorem gt_35 : ((Jvm.Cond.soleField "LoanDesk" "today") : Cond) ∈ lw_tbl := List.mem_append_right _ (List.mem_of_getElem? (i := 36) rfl)
set_option maxRecDepth 20000 in
theorem gt_36 : ((Jvm.Cond.superclass "LoanDesk" "java/lang/Object") : Cond) ∈ lw_tbl := List.mem_append_right _ (List.mem_of_getElem? (i := 37) rfl)
set_option maxRecDepth 20000 in
theorem gt_37 : (.methodLink RL 97 yD_date : Cond) ∈ lw_tbl := List.mem_append_right _ (List.mem_of_getElem? (i := 38) rfl)
set_option maxRecDepth 20000 in
theorem gt_38 : (.instanceMethod yD_date : Cond) ∈ lw_tbl := List.mem_append_right _ (List.mem_of_getElem? (i := 39) rfl)
set_option maxRecDepth 20000 in
theorem gt_39 : (.selects RD yD_date yD_date : Cond) ∈ lw_tbl := List.mem_append_right _ (List.mem_of_getElem? (i := 40) rfl)
theorem gtc_0 : ∀ w ∈ GW_0, w ∈ lw_tbl := List.forall_mem_cons.mpr ⟨gt_0, List.forall_mem_cons.mpr ⟨gt_1, List.forall_mem_cons.mpr ⟨gt_2, List.forall_mem_cons.mpr ⟨gt_3, List.forall_mem_cons.mpr ⟨gt_4, List.forall_mem_cons.mpr ⟨gt_5, List.forall_mem_cons.mpr ⟨gt_6, List.forall_mem_cons.mpr ⟨gt_7, List.forall_mem_cons.mpr ⟨gt_8, List.forall_mem_cons.mpr ⟨gt_9, List.forall_mem_cons.mpr ⟨gt_10, List.forall_mem_cons.mpr ⟨gt_11, List.forall_mem_cons.mpr ⟨gt_12, List.forall_mem_cons.mpr ⟨gt_13, List.forall_mem_cons.mpr ⟨gt_14, List.forall_mem_cons.mpr ⟨gt_15, List.forall_mem_cons.mpr ⟨gt_16, List.forall_mem_cons.mpr ⟨gt_17, List.forall_mem_cons.mpr ⟨gt_18, List.forall_mem_cons.mpr ⟨gt_19, List.forall_mem_cons.mpr ⟨gt_20, List.forall_mem_cons.mpr ⟨gt_21, List.forall_mem_cons.mpr ⟨gt_22, List.forall_mem_cons.mpr ⟨gt_23, List.forall_mem_cons.mpr ⟨gt_24, List.forall_mem_cons.mpr ⟨gt_25, List.forall_mem_cons.mpr ⟨gt_26, List.forall_mem_cons.mpr ⟨gt_27, List.forall_mem_cons.mpr ⟨gt_28, List.forall_mem_cons.mpr ⟨gt_29, List.forall_mem_cons.mpr ⟨gt_30, List.forall_mem_cons.mpr ⟨gt_31, List.forall_mem_cons.mpr ⟨gt_32, List.forall_mem_cons.mpr ⟨gt_33, List.forall_mem_cons.mpr ⟨gt_34, List.forall_mem_cons.mpr ⟨gt_35, List.forall_mem_cons.mpr ⟨gt_36, List.forall_mem_cons.mpr ⟨gt_37, List.forall_mem_cons.mpr ⟨gt_38, List.forall_mem_cons.mpr ⟨gt_39, fun _ h => absurd h List.not_mem_nil⟩⟩⟩⟩⟩⟩⟩⟩⟩⟩⟩⟩⟩⟩⟩⟩⟩⟩⟩⟩⟩⟩⟩⟩⟩⟩⟩⟩⟩⟩⟩⟩⟩⟩⟩⟩⟩⟩⟩⟩
set_option maxRecDepth 20000 in
theorem gt_40 : (.code yD_date cD_date 2 (some .int) : Cond) ∈ lw_tbl := List.mem_append_right _ (List.mem_of_getElem? (i := 41) rfl)
set_option maxRecDepth 20000 in
theorem gt_41 : (.methodLink RD 76 yY_monthOf : Cond) ∈ lw_tbl := List.mem_append_right _ (List.mem_of_getElem? (i := 42) rfl)
set_option maxRecDepth 20000 in
theorem gt_42 : (.static yY_monthOf : Cond) ∈ lw_tbl := List.mem_append_right _ (List.mem_of_getElem? (i := 43) rfl)
set_option maxRecDepth 20000 in
theorem gt_43 : (.code yY_monthOf cY_monthOf 4 (some .int) : Cond) ∈ lw_tbl := List.mem_append_right _ (List.mem_of_getElem? (i := 44) rfl)
set_option maxRecDepth 20000 in
theorem gt_44 : (.methodLink RD 82 yY_numberInMonth : Cond) ∈ lw_tbl := List.mem_append_right _ (List.mem_of_getElem? (i := 45) rfl)
set_option maxRecDepth 20000 in
theorem gt_45 : (.static yY_numberInMonth : Cond) ∈ lw_tbl := List.mem_append_right _ (List.mem_of_getElem? (i := 46) rfl)
set_option maxRecDepth 20000 in
theorem gt_46 : (.code yY_numberInMonth cY_numberInMonth 1 (some .int) : Cond) ∈ lw_tbl := List.mem_append_right _ (List.mem_of_getElem? (i := 47) rfl)
set_option maxRecDepth 20000 in
theorem gt_47 : (.methodLink RY 9 yY_monthOf : Cond) ∈ lw_tbl := List.mem_append_right _ (List.mem_of_getElem? (i := 48) rfl)
set_option maxRecDepth 20000 in
theorem gt_48 : (.methodLink RY 13 yY_firstDayOf : Cond) ∈ lw_tbl := List.mem_append_right _ (List.mem_of_getElem? (i := 49) rfl)
set_option maxRecDepth 20000 in
theorem gt_49 : (.static yY_firstDayOf : Cond) ∈ lw_tbl := List.mem_append_right _ (List.mem_of_getElem? (i := 50) rfl)
set_option maxRecDepth 20000 in
theorem gt_50 : (.code yY_firstDayOf cY_firstDayOf 4 (some .int) : Cond) ∈ lw_tbl := List.mem_append_right _ (List.mem_of_getElem? (i := 51) rfl)
set_option maxRecDepth 20000 in
theorem gt_51 : (.methodLink RL 72 yL_open : Cond) ∈ lw_tbl := List.mem_append_right _ (List.mem_of_getElem? (i := 52) rfl)
set_option maxRecDepth 20000 in
theorem gt_52 : (.static yL_open : Cond) ∈ lw_tbl := List.mem_append_right _ (List.mem_of_getElem? (i := 53) rfl)
set_option maxRecDepth 20000 in
theorem gt_53 : (.codeWith yL_open cL_open 9 (some .int) [(0, 18, 21, 13), (0, 18, 25, 15)] : Cond) ∈ lw_tbl := List.mem_append_right _ (List.mem_of_getElem? (i := 54) rfl)
set_option maxRecDepth 20000 in
theorem gt_54 : (.classLink RL 13 "java/lang/IllegalArgumentException" : Cond) ∈ lw_tbl := List.mem_append_right _ (List.mem_of_getElem? (i := 55) rfl)
set_option maxRecDepth 20000 in
theorem gt_55 : (.classLink RL 15 "java/lang/IllegalStateException" : Cond) ∈ lw_tbl := List.mem_append_right _ (List.mem_of_getElem? (i := 56) rfl)
set_option maxRecDepth 20000 in
theorem gt_56 : (.methodLink RL 7 yD_open : Cond) ∈ lw_tbl := List.mem_append_right _ (List.mem_of_getElem? (i := 57) rfl)
set_option maxRecDepth 20000 in
theorem gt_57 : (.instanceMethod yD_open : Cond) ∈ lw_tbl := List.mem_append_right _ (List.mem_of_getElem? (i := 58) rfl)
set_option maxRecDepth 20000 in
theorem gt_58 : (.selects RD yD_open yD_open : Cond) ∈ lw_tbl := List.mem_append_right _ (List.mem_of_getElem? (i := 59) rfl)
set_option maxRecDepth 20000 in
theorem gt_59 : (.code yD_open cD_open 9 (some .int) : Cond) ∈ lw_tbl := List.mem_append_right _ (List.mem_of_getElem? (i := 60) rfl)
set_option maxRecDepth 20000 in
theorem gt_60 : (.constant RD 22 (100000000) : Cond) ∈ lw_tbl := List.mem_append_right _ (List.mem_of_getElem? (i := 61) rfl)
set_option maxRecDepth 20000 in
theorem gt_61 : (.methodLink RD 23 yD_within : Cond) ∈ lw_tbl := List.mem_append_right _ (List.mem_of_getElem? (i := 62) rfl)
set_option maxRecDepth 20000 in
theorem gt_62 : (.static yD_within : Cond) ∈ lw_tbl := List.mem_append_right _ (List.mem_of_getElem? (i := 63) rfl)
set_option maxRecDepth 20000 in
theorem gt_63 : (.code yD_within cD_within 3 (some .boolean) : Cond) ∈ lw_tbl := List.mem_append_right _ (List.mem_of_getElem? (i := 64) rfl)
set_option maxRecDepth 20000 in
theorem gt_64 : (.classLink RD 27 "java/lang/IllegalArgumentException" : Cond) ∈ lw_tbl := List.mem_append_right _ (List.mem_of_getElem? (i := 65) rfl)
set_option maxRecDepth 20000 in
theorem gt_65 : (.instantiable "java/lang/IllegalArgumentException" 6 : Cond) ∈ lw_tbl := List.mem_append_right _ (List.mem_of_getElem? (i := 66) rfl)
set_option maxRecDepth 20000 in
theorem gt_66 : (.selects "java/lang/IllegalArgumentException" ⟨"java/lang/Throwable", "fillInStackTrace", "(I)Ljava/lang/Throwable;"⟩ ⟨"java/lang/Throwable", "fillInStackTrace", "(I)Ljava/lang/Throwable;"⟩ : Cond) ∈ lw_tbl := List.mem_append_right _ (List.mem_of_getElem? (i := 74) rfl)
set_option maxRecDepth 20000 in
theorem gt_67 : (.selects "java/lang/IllegalArgumentException" ⟨"java/lang/Throwable", "fillInStackTrace", "()Ljava/lang/Throwable;"⟩ ⟨"java/lang/Throwable", "fillInStackTrace", "()Ljava/lang/Throwable;"⟩ : Cond) ∈ lw_tbl := List.mem_append_right _ (List.mem_of_getElem? (i := 75) rfl)
set_option maxRecDepth 20000 in
theorem gt_68 : (.lays "java/lang/IllegalArgumentException" "java/lang/Throwable" "cause" "Ljava/lang/Throwable;" : Cond) ∈ lw_tbl := List.mem_append_right _ (List.mem_of_getElem? (i := 76) rfl)
set_option maxRecDepth 20000 in
theorem gt_69 : (.lays "java/lang/Throwable" "java/lang/Throwable" "cause" "Ljava/lang/Throwable;" : Cond) ∈ lw_tbl := List.mem_append_right _ (List.mem_of_getElem? (i := 77) rfl)
set_option maxRecDepth 20000 in
theorem gt_70 : (.lays "java/lang/IllegalArgumentException" "java/lang/Throwable" "stackTrace" "[Ljava/lang/StackTraceElement;" : Cond) ∈ lw_tbl := List.mem_append_right _ (List.mem_of_getElem? (i := 78) rfl)
set_option maxRecDepth 20000 in
theorem gt_71 : (.lays "java/lang/Throwable" "java/lang/Throwable" "stackTrace" "[Ljava/lang/StackTraceElement;" : Cond) ∈ lw_tbl := List.mem_append_right _ (List.mem_of_getElem? (i := 79) rfl)
set_option maxRecDepth 20000 in
theorem gt_72 : (.lays "java/lang/IllegalArgumentException" "java/lang/Throwable" "suppressedExceptions" "Ljava/util/List;" : Cond) ∈ lw_tbl := List.mem_append_right _ (List.mem_of_getElem? (i := 80) rfl)
set_option maxRecDepth 20000 in
theorem gt_73 : (.lays "java/lang/Throwable" "java/lang/Throwable" "suppressedExceptions" "Ljava/util/List;" : Cond) ∈ lw_tbl := List.mem_append_right _ (List.mem_of_getElem? (i := 81) rfl)
set_option maxRecDepth 20000 in
theorem gt_74 : (.lays "java/lang/IllegalArgumentException" "java/lang/Throwable" "detailMessage" "Ljava/lang/String;" : Cond) ∈ lw_tbl := List.mem_append_right _ (List.mem_of_getElem? (i := 82) rfl)
set_option maxRecDepth 20000 in
theorem gt_75 : (.lays "java/lang/Throwable" "java/lang/Throwable" "detailMessage" "Ljava/lang/String;" : Cond) ∈ lw_tbl := List.mem_append_right _ (List.mem_of_getElem? (i := 83) rfl)
set_option maxRecDepth 20000 in
theorem gt_76 : (.lays "java/lang/IllegalArgumentException" "java/lang/Throwable" "backtrace" "Ljava/lang/Object;" : Cond) ∈ lw_tbl := List.mem_append_right _ (List.mem_of_getElem? (i := 84) rfl)
set_option maxRecDepth 20000 in
theorem gt_77 : (.lays "java/lang/Throwable" "java/lang/Throwable" "backtrace" "Ljava/lang/Object;" : Cond) ∈ lw_tbl := List.mem_append_right _ (List.mem_of_getElem? (i := 85) rfl)
set_option maxRecDepth 20000 in
theorem gt_78 : (.fieldLink "java/lang/Throwable" 198 "java/lang/Throwable" "backtrace" "Ljava/lang/Object;" : Cond) ∈ lw_tbl := List.mem_append_right _ (List.mem_of_getElem? (i := 86) rfl)
set_option maxRecDepth 20000 in
theorem gt_79 : ((Jvm.Cond.superclass "java/lang/Throwable" "java/lang/Object") : Cond) ∈ lw_tbl := List.mem_append_right _ (List.mem_of_getElem? (i := 87) rfl)
theorem gtc_1 : ∀ w ∈ GW_1, w ∈ lw_tbl := List.forall_mem_cons.mpr ⟨gt_40, List.forall_mem_cons.mpr ⟨gt_41, List.forall_mem_cons.mpr ⟨gt_42, List.forall_mem_cons.mpr ⟨gt_43, List.forall_mem_cons.mpr ⟨gt_44, List.forall_mem_cons.mpr ⟨gt_45, List.forall_mem_cons.mpr ⟨gt_46, List.forall_mem_cons.mpr ⟨gt_47, List.forall_mem_cons.mpr ⟨gt_48, List.forall_mem_cons.mpr ⟨gt_49, List.forall_mem_cons.mpr ⟨gt_50, List.forall_mem_cons.mpr ⟨gt_51, List.forall_mem_cons.mpr ⟨gt_52, List.forall_mem_cons.mpr ⟨gt_53, List.forall_mem_cons.mpr ⟨gt_54, List.forall_mem_cons.mpr ⟨gt_55, List.forall_mem_cons.mpr ⟨gt_56, List.forall_mem_cons.mpr ⟨gt_57, List.forall_mem_cons.mpr ⟨gt_58, List.forall_mem_cons.mpr ⟨gt_59, List.forall_mem_cons.mpr ⟨gt_60, List.forall_mem_cons.mpr ⟨gt_61, List.forall_mem_cons.mpr ⟨gt_62, List.forall_mem_cons.mpr ⟨gt_63, List.forall_mem_cons.mpr ⟨gt_64, List.forall_mem_cons.mpr ⟨gt_65, List.forall_mem_cons.mpr ⟨gt_66, List.forall_mem_cons.mpr ⟨gt_67, List.forall_mem_cons.mpr ⟨gt_68, List.forall_mem_cons.mpr ⟨gt_69, List.forall_mem_cons.mpr ⟨gt_70, List.forall_mem_cons.mpr ⟨gt_71, List.forall_mem_cons.mpr ⟨gt_72, List.forall_mem_cons.mpr ⟨gt_73, List.forall_mem_cons.mpr ⟨gt_74, List.forall_mem_cons.mpr ⟨gt_75, List.forall_mem_cons.mpr ⟨gt_76, List.forall_mem_cons.mpr ⟨gt_77, List.forall_mem_cons.mpr ⟨gt_78, List.forall_mem_cons.mpr ⟨gt_79, fun _ h => absurd h List.not_mem_nil⟩⟩⟩⟩⟩⟩⟩⟩⟩⟩⟩⟩⟩⟩⟩⟩⟩⟩⟩⟩⟩⟩⟩⟩⟩⟩⟩⟩⟩⟩⟩⟩⟩⟩⟩⟩⟩⟩⟩⟩
set_option maxRecDepth 20000 in
theorem gt_80 : (.instanceMethod ⟨"java/lang/Throwable", "<init>", "()V"⟩ : Cond) ∈ lw_tbl := List.mem_append_right _ (List.mem_of_getElem? (i := 88) rfl)
set_option maxRecDepth 20000 in
theorem gt_81 : ((Jvm.Cond.code ({ cls := "java/lang/Throwable", name := "<init>", desc := "()V" } : Jvm.MethodName) prog_17_method_1_code (1 : Nat) (Option.none : Option Jvm.ClassFile.FieldType)) : Cond) ∈ lw_tbl := List.mem_append_right _ (List.mem_of_getElem? (i := 89) rfl)
set_option maxRecDepth 20000 in
theorem gt_82 : (.methodLink "java/lang/Throwable" 1 objectInit : Cond) ∈ lw_tbl := List.mem_append_right _ (List.mem_of_getElem? (i := 90) rfl)
set_option maxRecDepth 20000 in
theorem gt_83 : (.fieldLink "java/lang/Throwable" 13 "java/lang/Throwable" "UNASSIGNED_STACK" "[Ljava/lang/StackTraceElement;" : Cond) ∈ lw_tbl := List.mem_append_right _ (List.mem_of_getElem? (i := 91) rfl)
set_option maxRecDepth 20000 in
theorem gt_84 : (.fieldLink "java/lang/Throwable" 20 "java/lang/Throwable" "SUPPRESSED_SENTINEL" "Ljava/util/List;" : Cond) ∈ lw_tbl := List.mem_append_right _ (List.mem_of_getElem? (i := 93) rfl)
set_option maxRecDepth 20000 in
theorem gt_85 : (.methodLink "java/lang/Throwable" 27 ⟨"java/lang/Throwable", "fillInStackTrace", "()Ljava/lang/Throwable;"⟩ : Cond) ∈ lw_tbl := List.mem_append_right _ (List.mem_of_getElem? (i := 95) rfl)
set_option maxRecDepth 20000 in
theorem gt_86 : (.instanceMethod ⟨"java/lang/Throwable", "fillInStackTrace", "()Ljava/lang/Throwable;"⟩ : Cond) ∈ lw_tbl := List.mem_append_right _ (List.mem_of_getElem? (i := 96) rfl)
set_option maxRecDepth 20000 in
theorem gt_87 : ((Jvm.Cond.sameMethod "java/lang/Throwable" "java/lang/Throwable" "fillInStackTrace" "()Ljava/lang/Throwable;") : Cond) ∈ lw_tbl := List.mem_append_right _ (List.mem_of_getElem? (i := 97) rfl)
set_option maxRecDepth 20000 in
theorem gt_88 : (.selects "java/lang/IllegalStateException" ⟨"java/lang/Throwable", "fillInStackTrace", "()Ljava/lang/Throwable;"⟩ ⟨"java/lang/Throwable", "fillInStackTrace", "()Ljava/lang/Throwable;"⟩ : Cond) ∈ lw_tbl := List.mem_append_right _ (List.mem_of_getElem? (i := 98) rfl)
set_option maxRecDepth 20000 in
theorem gt_89 : (.selects "java/lang/IndexOutOfBoundsException" ⟨"java/lang/Throwable", "fillInStackTrace", "()Ljava/lang/Throwable;"⟩ ⟨"java/lang/Throwable", "fillInStackTrace", "()Ljava/lang/Throwable;"⟩ : Cond) ∈ lw_tbl := List.mem_append_right _ (List.mem_of_getElem? (i := 99) rfl)
set_option maxRecDepth 20000 in
theorem gt_90 : (.selects "java/util/NoSuchElementException" ⟨"java/lang/Throwable", "fillInStackTrace", "()Ljava/lang/Throwable;"⟩ ⟨"java/lang/Throwable", "fillInStackTrace", "()Ljava/lang/Throwable;"⟩ : Cond) ∈ lw_tbl := List.mem_append_right _ (List.mem_of_getElem? (i := 100) rfl)
set_option maxRecDepth 20000 in
theorem gt_91 : ((Jvm.Cond.codeSync ({ cls := "java/lang/Throwable", name := "fillInStackTrace", desc := "()Ljava/lang/Throwable;" } : Jvm.MethodName) prog_17_method_18_code (1 : Nat) (Option.some (Jvm.ClassFile.FieldType.object "java/lang/Throwable"))) : Cond) ∈ lw_tbl := List.mem_append_right _ (List.mem_of_getElem? (i := 101) rfl)
set_option maxRecDepth 20000 in
theorem gt_92 : (.methodLink "java/lang/Throwable" 202 ⟨"java/lang/Throwable", "fillInStackTrace", "(I)Ljava/lang/Throwable;"⟩ : Cond) ∈ lw_tbl := List.mem_append_right _ (List.mem_of_getElem? (i := 102) rfl)
set_option maxRecDepth 20000 in
theorem gt_93 : (.instanceMethod ⟨"java/lang/Throwable", "fillInStackTrace", "(I)Ljava/lang/Throwable;"⟩ : Cond) ∈ lw_tbl := List.mem_append_right _ (List.mem_of_getElem? (i := 104) rfl)
set_option maxRecDepth 20000 in
theorem gt_94 : (.instantiable "java/lang/Throwable" 6 : Cond) ∈ lw_tbl := List.mem_append_right _ (List.mem_of_getElem? (i := 105) rfl)
set_option maxRecDepth 20000 in
theorem gt_95 : ((Jvm.Cond.native ({ cls := "java/lang/Throwable", name := "fillInStackTrace", desc := "(I)Ljava/lang/Throwable;" } : Jvm.MethodName)) : Cond) ∈ lw_tbl := List.mem_append_right _ (List.mem_of_getElem? (i := 106) rfl)
set_option maxRecDepth 20000 in
theorem gt_96 : (.methodLink RD 29 ⟨"java/lang/IllegalArgumentException", "<init>", "()V"⟩ : Cond) ∈ lw_tbl := List.mem_append_right _ (List.mem_of_getElem? (i := 107) rfl)
set_option maxRecDepth 20000 in
theorem gt_97 : (.instanceMethod ⟨"java/lang/IllegalArgumentException", "<init>", "()V"⟩ : Cond) ∈ lw_tbl := List.mem_append_right _ (List.mem_of_getElem? (i := 108) rfl)
set_option maxRecDepth 20000 in
theorem gt_98 : ((Jvm.Cond.code ({ cls := "java/lang/IllegalArgumentException", name := "<init>", desc := "()V" } : Jvm.MethodName) prog_12_method_1_code (1 : Nat) (Option.none : Option Jvm.ClassFile.FieldType)) : Cond) ∈ lw_tbl := List.mem_append_right _ (List.mem_of_getElem? (i := 109) rfl)
set_option maxRecDepth 20000 in
theorem gt_99 : (.methodLink "java/lang/IllegalArgumentException" 1 ⟨"java/lang/RuntimeException", "<init>", "()V"⟩ : Cond) ∈ lw_tbl := List.mem_append_right _ (List.mem_of_getElem? (i := 110) rfl)
set_option maxRecDepth 20000 in
theorem gt_100 : (.instanceMethod ⟨"java/lang/RuntimeException", "<init>", "()V"⟩ : Cond) ∈ lw_tbl := List.mem_append_right _ (List.mem_of_getElem? (i := 111) rfl)
set_option maxRecDepth 20000 in
theorem gt_101 : ((Jvm.Cond.code ({ cls := "java/lang/RuntimeException", name := "<init>", desc := "()V" } : Jvm.MethodName) prog_16_method_1_code (1 : Nat) (Option.none : Option Jvm.ClassFile.FieldType)) : Cond) ∈ lw_tbl := List.mem_append_right _ (List.mem_of_getElem? (i := 112) rfl)
set_option maxRecDepth 20000 in
theorem gt_102 : (.methodLink "java/lang/RuntimeException" 1 ⟨"java/lang/Exception", "<init>", "()V"⟩ : Cond) ∈ lw_tbl := List.mem_append_right _ (List.mem_of_getElem? (i := 113) rfl)
set_option maxRecDepth 20000 in
theorem gt_103 : (.instanceMethod ⟨"java/lang/Exception", "<init>", "()V"⟩ : Cond) ∈ lw_tbl := List.mem_append_right _ (List.mem_of_getElem? (i := 114) rfl)
set_option maxRecDepth 20000 in
theorem gt_104 : ((Jvm.Cond.code ({ cls := "java/lang/Exception", name := "<init>", desc := "()V" } : Jvm.MethodName) prog_11_method_1_code (1 : Nat) (Option.none : Option Jvm.ClassFile.FieldType)) : Cond) ∈ lw_tbl := List.mem_append_right _ (List.mem_of_getElem? (i := 115) rfl)
set_option maxRecDepth 20000 in
theorem gt_105 : (.methodLink "java/lang/Exception" 1 ⟨"java/lang/Throwable", "<init>", "()V"⟩ : Cond) ∈ lw_tbl := List.mem_append_right _ (List.mem_of_getElem? (i := 116) rfl)
set_option maxRecDepth 20000 in
theorem gt_106 : (.fieldLink "java/lang/Throwable" 198 "java/lang/Throwable" "backtrace" "Ljava/lang/Object;" : Cond) ∈ lw_tbl := List.mem_append_right _ (List.mem_of_getElem? (i := 117) rfl)
set_option maxRecDepth 20000 in
theorem gt_107 : (.fieldLink "java/lang/Throwable" 7 "java/lang/Throwable" "cause" "Ljava/lang/Throwable;" : Cond) ∈ lw_tbl := List.mem_append_right _ (List.mem_of_getElem? (i := 118) rfl)
set_option maxRecDepth 20000 in
theorem gt_108 : (.fieldLink "java/lang/Throwable" 17 "java/lang/Throwable" "stackTrace" "[Ljava/lang/StackTraceElement;" : Cond) ∈ lw_tbl := List.mem_append_right _ (List.mem_of_getElem? (i := 119) rfl)
set_option maxRecDepth 20000 in
theorem gt_109 : (.fieldLink "java/lang/Throwable" 24 "java/lang/Throwable" "suppressedExceptions" "Ljava/util/List;" : Cond) ∈ lw_tbl := List.mem_append_right _ (List.mem_of_getElem? (i := 120) rfl)
set_option maxRecDepth 20000 in
theorem gt_110 : ((Jvm.Cond.soleField "java/lang/Throwable" "backtrace") : Cond) ∈ lw_tbl := List.mem_append_right _ (List.mem_of_getElem? (i := 121) rfl)
set_option maxRecDepth 20000 in
theorem gt_111 : ((Jvm.Cond.soleField "java/lang/Throwable" "detailMessage") : Cond) ∈ lw_tbl := List.mem_append_right _ (List.mem_of_getElem? (i := 122) rfl)
set_option maxRecDepth 20000 in
theorem gt_112 : ((Jvm.Cond.soleField "java/lang/Throwable" "cause") : Cond) ∈ lw_tbl := List.mem_append_right _ (List.mem_of_getElem? (i := 123) rfl)
set_option maxRecDepth 20000 in
theorem gt_113 : ((Jvm.Cond.soleField "java/lang/Throwable" "stackTrace") : Cond) ∈ lw_tbl := List.mem_append_right _ (List.mem_of_getElem? (i := 124) rfl)
set_option maxRecDepth 20000 in
theorem gt_114 : (.lays "java/lang/IllegalArgumentException" "java/lang/Throwable" "depth" "I" : Cond) ∈ lw_tbl := List.mem_append_right _ (List.mem_of_getElem? (i := 125) rfl)
set_option maxRecDepth 20000 in
theorem gt_115 : ((Jvm.Cond.soleField "java/lang/Throwable" "depth") : Cond) ∈ lw_tbl := List.mem_append_right _ (List.mem_of_getElem? (i := 126) rfl)
set_option maxRecDepth 20000 in
theorem gt_116 : ((Jvm.Cond.soleField "java/lang/Throwable" "suppressedExceptions") : Cond) ∈ lw_tbl := List.mem_append_right _ (List.mem_of_getElem? (i := 127) rfl)
set_option maxRecDepth 20000 in
theorem gt_117 : ((Jvm.Cond.superclass "java/lang/IllegalArgumentException" "java/lang/RuntimeException") : Cond) ∈ lw_tbl := List.mem_append_right _ (List.mem_of_getElem? (i := 128) rfl)
set_option maxRecDepth 20000 in
theorem gt_118 : (.classLink RD 30 "java/lang/IllegalStateException" : Cond) ∈ lw_tbl := List.mem_append_right _ (List.mem_of_getElem? (i := 129) rfl)
set_option maxRecDepth 20000 in
theorem gt_119 : (.instantiable "java/lang/IllegalStateException" 6 : Cond) ∈ lw_tbl := List.mem_append_right _ (List.mem_of_getElem? (i := 130) rfl)
theorem gtc_2 : ∀ w ∈ GW_2, w ∈ lw_tbl := List.forall_mem_cons.mpr ⟨gt_80, List.forall_mem_cons.mpr ⟨gt_81, List.forall_mem_cons.mpr ⟨gt_82, List.forall_mem_cons.mpr ⟨gt_83, List.forall_mem_cons.mpr ⟨gt_84, List.forall_mem_cons.mpr ⟨gt_85, List.forall_mem_cons.mpr ⟨gt_86, List.forall_mem_cons.mpr ⟨gt_87, List.forall_mem_cons.mpr ⟨gt_88, List.forall_mem_cons.mpr ⟨gt_89, List.forall_mem_cons.mpr ⟨gt_90, List.forall_mem_cons.mpr ⟨gt_91, List.forall_mem_cons.mpr ⟨gt_92, List.forall_mem_cons.mpr ⟨gt_93, List.forall_mem_cons.mpr ⟨gt_94, List.forall_mem_cons.mpr ⟨gt_95, List.forall_mem_cons.mpr ⟨gt_96, List.forall_mem_cons.mpr ⟨gt_97, List.forall_mem_cons.mpr ⟨gt_98, List.forall_mem_cons.mpr ⟨gt_99, List.forall_mem_cons.mpr ⟨gt_100, List.forall_mem_cons.mpr ⟨gt_101, List.forall_mem_cons.mpr ⟨gt_102, List.forall_mem_cons.mpr ⟨gt_103, List.forall_mem_cons.mpr ⟨gt_104, List.forall_mem_cons.mpr ⟨gt_105, List.forall_mem_cons.mpr ⟨gt_106, List.forall_mem_cons.mpr ⟨gt_107, List.forall_mem_cons.mpr ⟨gt_108, List.forall_mem_cons.mpr ⟨gt_109, List.forall_mem_cons.mpr ⟨gt_110, List.forall_mem_cons.mpr ⟨gt_111, List.forall_mem_cons.mpr ⟨gt_112, List.forall_mem_cons.mpr ⟨gt_113, List.forall_mem_cons.mpr ⟨gt_114, List.forall_mem_cons.mpr ⟨gt_115, List.forall_mem_cons.mpr ⟨gt_116, List.forall_mem_cons.mpr ⟨gt_117, List.forall_mem_cons.mpr ⟨gt_118, List.forall_mem_cons.mpr ⟨gt_119, fun _ h => absurd h List.not_mem_nil⟩⟩⟩⟩⟩⟩⟩⟩⟩⟩⟩⟩⟩⟩⟩⟩⟩⟩⟩⟩⟩⟩⟩⟩⟩⟩⟩⟩⟩⟩⟩⟩⟩⟩⟩⟩⟩⟩⟩⟩
set_option maxRecDepth 20000 in
theorem gt_120 : (.selects "java/lang/IllegalStateException" ⟨"java/lang/Throwable", "fillInStackTrace", "(I)Ljava/lang/Throwable;"⟩ ⟨"java/lang/Throwable", "fillInStackTrace", "(I)Ljava/lang/Throwable;"⟩ : Cond) ∈ lw_tbl := List.mem_append_right _ (List.mem_of_getElem? (i := 132) rfl)
set_option maxRecDepth 20000 in
theorem gt_121 : (.lays "java/lang/IllegalStateException" "java/lang/Throwable" "cause" "Ljava/lang/Throwable;" : Cond) ∈ lw_tbl := List.mem_append_right _ (List.mem_of_getElem? (i := 133) rfl)
set_option maxRecDepth 20000 in
theorem gt_122 : (.lays "java/lang/IllegalStateException" "java/lang/Throwable" "stackTrace" "[Ljava/lang/StackTraceElement;" : Cond) ∈ lw_tbl := List.mem_append_right _ (List.mem_of_getElem? (i := 134) rfl)
set_option maxRecDepth 20000 in
theorem gt_123 : (.lays "java/lang/IllegalStateException" "java/lang/Throwable" "suppressedExceptions" "Ljava/util/List;" : Cond) ∈ lw_tbl := List.mem_append_right _ (List.mem_of_getElem? (i := 135) rfl)
set_option maxRecDepth 20000 in
theorem gt_124 : (.lays "java/lang/IllegalStateException" "java/lang/Throwable" "detailMessage" "Ljava/lang/String;" : Cond) ∈ lw_tbl := List.mem_append_right _ (List.mem_of_getElem? (i := 136) rfl)
set_option maxRecDepth 20000 in
theorem gt_125 : (.lays "java/lang/IllegalStateException" "java/lang/Throwable" "backtrace" "Ljava/lang/Object;" : Cond) ∈ lw_tbl := List.mem_append_right _ (List.mem_of_getElem? (i := 137) rfl)
set_option maxRecDepth 20000 in
theorem gt_126 : (.methodLink RD 32 ⟨"java/lang/IllegalStateException", "<init>", "()V"⟩ : Cond) ∈ lw_tbl := List.mem_append_right _ (List.mem_of_getElem? (i := 138) rfl)
set_option maxRecDepth 20000 in
theorem gt_127 : (.instanceMethod ⟨"java/lang/IllegalStateException", "<init>", "()V"⟩ : Cond) ∈ lw_tbl := List.mem_append_right _ (List.mem_of_getElem? (i := 139) rfl)
set_option maxRecDepth 20000 in
theorem gt_128 : ((Jvm.Cond.code ({ cls := "java/lang/IllegalStateException", name := "<init>", desc := "()V" } : Jvm.MethodName) prog_13_method_1_code (1 : Nat) (Option.none : Option Jvm.ClassFile.FieldType)) : Cond) ∈ lw_tbl := List.mem_append_right _ (List.mem_of_getElem? (i := 140) rfl)
set_option maxRecDepth 20000 in
theorem gt_129 : (.methodLink "java/lang/IllegalStateException" 1 ⟨"java/lang/RuntimeException", "<init>", "()V"⟩ : Cond) ∈ lw_tbl := List.mem_append_right _ (List.mem_of_getElem? (i := 141) rfl)
set_option maxRecDepth 20000 in
theorem gt_130 : (.lays "java/lang/IllegalStateException" "java/lang/Throwable" "depth" "I" : Cond) ∈ lw_tbl := List.mem_append_right _ (List.mem_of_getElem? (i := 142) rfl)
set_option maxRecDepth 20000 in
theorem gt_131 : ((Jvm.Cond.superclass "java/lang/IllegalStateException" "java/lang/RuntimeException") : Cond) ∈ lw_tbl := List.mem_append_right _ (List.mem_of_getElem? (i := 143) rfl)
set_option maxRecDepth 20000 in
theorem gt_132 : (.classLink RD 33 RT : Cond) ∈ lw_tbl := List.mem_append_right _ (List.mem_of_getElem? (i := 144) rfl)
set_option maxRecDepth 20000 in
theorem gt_133 : (.instantiable RT 7 : Cond) ∈ lw_tbl := List.mem_append_right _ (List.mem_of_getElem? (i := 145) rfl)
set_option maxRecDepth 20000 in
theorem gt_134 : (.methodLink RD 35 yT_init : Cond) ∈ lw_tbl := List.mem_append_right _ (List.mem_of_getElem? (i := 146) rfl)
set_option maxRecDepth 20000 in
theorem gt_135 : (.instanceMethod yT_init : Cond) ∈ lw_tbl := List.mem_append_right _ (List.mem_of_getElem? (i := 147) rfl)
set_option maxRecDepth 20000 in
theorem gt_136 : (.code yT_init cT_init 7 none : Cond) ∈ lw_tbl := List.mem_append_right _ (List.mem_of_getElem? (i := 148) rfl)
set_option maxRecDepth 20000 in
theorem gt_137 : (.methodLink RT 1 objectInit : Cond) ∈ lw_tbl := List.mem_append_right _ (List.mem_of_getElem? (i := 149) rfl)
set_option maxRecDepth 20000 in
theorem gt_138 : (.methodLink RT 26 yY_monthOf : Cond) ∈ lw_tbl := List.mem_append_right _ (List.mem_of_getElem? (i := 150) rfl)
set_option maxRecDepth 20000 in
theorem gt_139 : (.methodLink RT 35 yY_numberInMonth : Cond) ∈ lw_tbl := List.mem_append_right _ (List.mem_of_getElem? (i := 151) rfl)
set_option maxRecDepth 20000 in
theorem gt_140 : (.fieldLink RT 7 "LoanDesk$Terms" "rate" "I" : Cond) ∈ lw_tbl := List.mem_append_right _ (List.mem_of_getElem? (i := 152) rfl)
set_option maxRecDepth 20000 in
theorem gt_141 : (.fieldLink RN 67 "LoanDesk$Terms" "rate" "I" : Cond) ∈ lw_tbl := List.mem_append_right _ (List.mem_of_getElem? (i := 153) rfl)
set_option maxRecDepth 20000 in
theorem gt_142 : (.fieldLink RT 13 "LoanDesk$Terms" "months" "I" : Cond) ∈ lw_tbl := List.mem_append_right _ (List.mem_of_getElem? (i := 154) rfl)
set_option maxRecDepth 20000 in
theorem gt_143 : (.fieldLink RN 118 "LoanDesk$Terms" "months" "I" : Cond) ∈ lw_tbl := List.mem_append_right _ (List.mem_of_getElem? (i := 155) rfl)
set_option maxRecDepth 20000 in
theorem gt_144 : (.fieldLink RT 16 "LoanDesk$Terms" "rule" "I" : Cond) ∈ lw_tbl := List.mem_append_right _ (List.mem_of_getElem? (i := 156) rfl)
set_option maxRecDepth 20000 in
theorem gt_145 : (.fieldLink RN 55 "LoanDesk$Terms" "rule" "I" : Cond) ∈ lw_tbl := List.mem_append_right _ (List.mem_of_getElem? (i := 157) rfl)
set_option maxRecDepth 20000 in
theorem gt_146 : (.fieldLink RT 19 "LoanDesk$Terms" "rounding" "I" : Cond) ∈ lw_tbl := List.mem_append_right _ (List.mem_of_getElem? (i := 158) rfl)
set_option maxRecDepth 20000 in
theorem gt_147 : (.fieldLink RN 70 "LoanDesk$Terms" "rounding" "I" : Cond) ∈ lw_tbl := List.mem_append_right _ (List.mem_of_getElem? (i := 159) rfl)
set_option maxRecDepth 20000 in
theorem gt_148 : (.fieldLink RT 22 "LoanDesk$Terms" "steady" "Z" : Cond) ∈ lw_tbl := List.mem_append_right _ (List.mem_of_getElem? (i := 160) rfl)
set_option maxRecDepth 20000 in
theorem gt_149 : (.fieldLink RN 143 "LoanDesk$Terms" "steady" "Z" : Cond) ∈ lw_tbl := List.mem_append_right _ (List.mem_of_getElem? (i := 161) rfl)
set_option maxRecDepth 20000 in
theorem gt_150 : (.fieldLink RT 32 "LoanDesk$Terms" "monthOpened" "I" : Cond) ∈ lw_tbl := List.mem_append_right _ (List.mem_of_getElem? (i := 162) rfl)
set_option maxRecDepth 20000 in
theorem gt_151 : (.fieldLink RT 38 "LoanDesk$Terms" "numberInMonth" "I" : Cond) ∈ lw_tbl := List.mem_append_right _ (List.mem_of_getElem? (i := 163) rfl)
set_option maxRecDepth 20000 in
theorem gt_152 : (.laysFinal RT "LoanDesk$Terms" "rate" "I" : Cond) ∈ lw_tbl := List.mem_append_right _ (List.mem_of_getElem? (i := 164) rfl)
set_option maxRecDepth 20000 in
theorem gt_153 : ((Jvm.Cond.soleField "LoanDesk$Terms" "rate") : Cond) ∈ lw_tbl := List.mem_append_right _ (List.mem_of_getElem? (i := 165) rfl)
set_option maxRecDepth 20000 in
theorem gt_154 : (.laysFinal RT "LoanDesk$Terms" "months" "I" : Cond) ∈ lw_tbl := List.mem_append_right _ (List.mem_of_getElem? (i := 166) rfl)
set_option maxRecDepth 20000 in
theorem gt_155 : ((Jvm.Cond.soleField "LoanDesk$Terms" "months") : Cond) ∈ lw_tbl := List.mem_append_right _ (List.mem_of_getElem? (i := 167) rfl)
set_option maxRecDepth 20000 in
theorem gt_156 : (.laysFinal RT "LoanDesk$Terms" "rule" "I" : Cond) ∈ lw_tbl := List.mem_append_right _ (List.mem_of_getElem? (i := 168) rfl)
set_option maxRecDepth 20000 in
theorem gt_157 : ((Jvm.Cond.soleField "LoanDesk$Terms" "rule") : Cond) ∈ lw_tbl := List.mem_append_right _ (List.mem_of_getElem? (i := 169) rfl)
set_option maxRecDepth 20000 in
theorem gt_158 : (.laysFinal RT "LoanDesk$Terms" "rounding" "I" : Cond) ∈ lw_tbl := List.mem_append_right _ (List.mem_of_getElem? (i := 170) rfl)
set_option maxRecDepth 20000 in
theorem gt_159 : ((Jvm.Cond.soleField "LoanDesk$Terms" "rounding") : Cond) ∈ lw_tbl := List.mem_append_right _ (List.mem_of_getElem? (i := 171) rfl)
theorem gtc_3 : ∀ w ∈ GW_3, w ∈ lw_tbl := List.forall_mem_cons.mpr ⟨gt_120, List.forall_mem_cons.mpr ⟨gt_121, List.forall_mem_cons.mpr ⟨gt_122, List.forall_mem_cons.mpr ⟨gt_123, List.forall_mem_cons.mpr ⟨gt_124, List.forall_mem_cons.mpr ⟨gt_125, List.forall_mem_cons.mpr ⟨gt_126, List.forall_mem_cons.mpr ⟨gt_127, List.forall_mem_cons.mpr ⟨gt_128, List.forall_mem_cons.mpr ⟨gt_129, List.forall_mem_cons.mpr ⟨gt_130, List.forall_mem_cons.mpr ⟨gt_131, List.forall_mem_cons.mpr ⟨gt_132, List.forall_mem_cons.mpr ⟨gt_133, List.forall_mem_cons.mpr ⟨gt_134, List.forall_mem_cons.mpr ⟨gt_135, List.forall_mem_cons.mpr ⟨gt_136, List.forall_mem_cons.mpr ⟨gt_137, List.forall_mem_cons.mpr ⟨gt_138, List.forall_mem_cons.mpr ⟨gt_139, List.forall_mem_cons.mpr ⟨gt_140, List.forall_mem_cons.mpr ⟨gt_141, List.forall_mem_cons.mpr ⟨gt_142, List.forall_mem_cons.mpr ⟨gt_143, List.forall_mem_cons.mpr ⟨gt_144, List.forall_mem_cons.mpr ⟨gt_145, List.forall_mem_cons.mpr ⟨gt_146, List.forall_mem_cons.mpr ⟨gt_147, List.forall_mem_cons.mpr ⟨gt_148, List.forall_mem_cons.mpr ⟨gt_149, List.forall_mem_cons.mpr ⟨gt_150, List.forall_mem_cons.mpr ⟨gt_151, List.forall_mem_cons.mpr ⟨gt_152, List.forall_mem_cons.mpr ⟨gt_153, List.forall_mem_cons.mpr ⟨gt_154, List.forall_mem_cons.mpr ⟨gt_155, List.forall_mem_cons.mpr ⟨gt_156, List.forall_mem_cons.mpr ⟨gt_157, List.forall_mem_cons.mpr ⟨gt_158, List.forall_mem_cons.mpr ⟨gt_159, fun _ h => absurd h List.not_mem_nil⟩⟩⟩⟩⟩⟩⟩⟩⟩⟩⟩⟩⟩⟩⟩⟩⟩⟩⟩⟩⟩⟩⟩⟩⟩⟩⟩⟩⟩⟩⟩⟩⟩⟩⟩⟩⟩⟩⟩⟩
set_option maxRecDepth 20000 in
theorem gt_160 : (.laysFinal RT "LoanDesk$Terms" "steady" "Z" : Cond) ∈ lw_tbl := List.mem_append_right _ (List.mem_of_getElem? (i := 172) rfl)
set_option maxRecDepth 20000 in
theorem gt_161 : ((Jvm.Cond.soleField "LoanDesk$Terms" "steady") : Cond) ∈ lw_tbl := List.mem_append_right _ (List.mem_of_getElem? (i := 173) rfl)
set_option maxRecDepth 20000 in
theorem gt_162 : (.laysFinal RT "LoanDesk$Terms" "monthOpened" "I" : Cond) ∈ lw_tbl := List.mem_append_right _ (List.mem_of_getElem? (i := 174) rfl)
set_option maxRecDepth 20000 in
theorem gt_163 : ((Jvm.Cond.soleField "LoanDesk$Terms" "monthOpened") : Cond) ∈ lw_tbl := List.mem_append_right _ (List.mem_of_getElem? (i := 175) rfl)
set_option maxRecDepth 20000 in
theorem gt_164 : (.laysFinal RT "LoanDesk$Terms" "numberInMonth" "I" : Cond) ∈ lw_tbl := List.mem_append_right _ (List.mem_of_getElem? (i := 176) rfl)
set_option maxRecDepth 20000 in
theorem gt_165 : ((Jvm.Cond.soleField "LoanDesk$Terms" "numberInMonth") : Cond) ∈ lw_tbl := List.mem_append_right _ (List.mem_of_getElem? (i := 177) rfl)
set_option maxRecDepth 20000 in
theorem gt_166 : ((Jvm.Cond.superclass "LoanDesk$Terms" "java/lang/Object") : Cond) ∈ lw_tbl := List.mem_append_right _ (List.mem_of_getElem? (i := 178) rfl)
set_option maxRecDepth 20000 in
theorem gt_167 : (.instantiable RN 13 : Cond) ∈ lw_tbl := List.mem_append_right _ (List.mem_of_getElem? (i := 179) rfl)
set_option maxRecDepth 20000 in
theorem gt_168 : (.methodLink RD 38 yN_init : Cond) ∈ lw_tbl := List.mem_append_right _ (List.mem_of_getElem? (i := 180) rfl)
set_option maxRecDepth 20000 in
theorem gt_169 : (.instanceMethod yN_init : Cond) ∈ lw_tbl := List.mem_append_right _ (List.mem_of_getElem? (i := 181) rfl)
set_option maxRecDepth 20000 in
theorem gt_170 : (.code yN_init cN_init 4 none : Cond) ∈ lw_tbl := List.mem_append_right _ (List.mem_of_getElem? (i := 182) rfl)
set_option maxRecDepth 20000 in
theorem gt_171 : (.methodLink RN 3 objectInit : Cond) ∈ lw_tbl := List.mem_append_right _ (List.mem_of_getElem? (i := 183) rfl)
set_option maxRecDepth 20000 in
theorem gt_172 : (.classLink RN 19 RA : Cond) ∈ lw_tbl := List.mem_append_right _ (List.mem_of_getElem? (i := 184) rfl)
set_option maxRecDepth 20000 in
theorem gt_173 : (.instantiable RA 3 : Cond) ∈ lw_tbl := List.mem_append_right _ (List.mem_of_getElem? (i := 185) rfl)
set_option maxRecDepth 20000 in
theorem gt_174 : (.instanceMethod yA_init : Cond) ∈ lw_tbl := List.mem_append_right _ (List.mem_of_getElem? (i := 187) rfl)
set_option maxRecDepth 20000 in
theorem gt_175 : (.code yA_init cA_init 1 none : Cond) ∈ lw_tbl := List.mem_append_right _ (List.mem_of_getElem? (i := 188) rfl)
set_option maxRecDepth 20000 in
theorem gt_176 : (.methodLink RA 1 objectInit : Cond) ∈ lw_tbl := List.mem_append_right _ (List.mem_of_getElem? (i := 189) rfl)
set_option maxRecDepth 20000 in
theorem gt_177 : (.fieldLink RA 22 "LoanDesk$Account" "balance" "I" : Cond) ∈ lw_tbl := List.mem_append_right _ (List.mem_of_getElem? (i := 190) rfl)
set_option maxRecDepth 20000 in
theorem gt_178 : (.fieldLink RN 136 "LoanDesk$Account" "balance" "I" : Cond) ∈ lw_tbl := List.mem_append_right _ (List.mem_of_getElem? (i := 191) rfl)
set_option maxRecDepth 20000 in
theorem gt_179 : (.fieldLink RD 104 "LoanDesk$Account" "balance" "I" : Cond) ∈ lw_tbl := List.mem_append_right _ (List.mem_of_getElem? (i := 192) rfl)
set_option maxRecDepth 20000 in
theorem gt_180 : (.fieldLink RA 19 "LoanDesk$Account" "deposit" "I" : Cond) ∈ lw_tbl := List.mem_append_right _ (List.mem_of_getElem? (i := 193) rfl)
set_option maxRecDepth 20000 in
theorem gt_181 : (.fieldLink RN 111 "LoanDesk$Account" "deposit" "I" : Cond) ∈ lw_tbl := List.mem_append_right _ (List.mem_of_getElem? (i := 194) rfl)
set_option maxRecDepth 20000 in
theorem gt_182 : (.fieldLink RD 107 "LoanDesk$Account" "deposit" "I" : Cond) ∈ lw_tbl := List.mem_append_right _ (List.mem_of_getElem? (i := 195) rfl)
set_option maxRecDepth 20000 in
theorem gt_183 : (.fieldLink RA 7 "LoanDesk$Account" "yearlyCharge" "I" : Cond) ∈ lw_tbl := List.mem_append_right _ (List.mem_of_getElem? (i := 196) rfl)
set_option maxRecDepth 20000 in
theorem gt_184 : (.lays RA "LoanDesk$Account" "balance" "I" : Cond) ∈ lw_tbl := List.mem_append_right _ (List.mem_of_getElem? (i := 197) rfl)
set_option maxRecDepth 20000 in
theorem gt_185 : ((Jvm.Cond.soleField "LoanDesk$Account" "balance") : Cond) ∈ lw_tbl := List.mem_append_right _ (List.mem_of_getElem? (i := 198) rfl)
set_option maxRecDepth 20000 in
theorem gt_186 : (.lays RA "LoanDesk$Account" "deposit" "I" : Cond) ∈ lw_tbl := List.mem_append_right _ (List.mem_of_getElem? (i := 199) rfl)
set_option maxRecDepth 20000 in
theorem gt_187 : ((Jvm.Cond.soleField "LoanDesk$Account" "deposit") : Cond) ∈ lw_tbl := List.mem_append_right _ (List.mem_of_getElem? (i := 200) rfl)
set_option maxRecDepth 20000 in
theorem gt_188 : (.lays RA "LoanDesk$Account" "yearlyCharge" "I" : Cond) ∈ lw_tbl := List.mem_append_right _ (List.mem_of_getElem? (i := 201) rfl)
set_option maxRecDepth 20000 in
theorem gt_189 : ((Jvm.Cond.soleField "LoanDesk$Account" "yearlyCharge") : Cond) ∈ lw_tbl := List.mem_append_right _ (List.mem_of_getElem? (i := 202) rfl)
set_option maxRecDepth 20000 in
theorem gt_190 : ((Jvm.Cond.superclass "LoanDesk$Account" "java/lang/Object") : Cond) ∈ lw_tbl := List.mem_append_right _ (List.mem_of_getElem? (i := 203) rfl)
set_option maxRecDepth 20000 in
theorem gt_191 : (.classLink RN 26 RB : Cond) ∈ lw_tbl := List.mem_append_right _ (List.mem_of_getElem? (i := 204) rfl)
set_option maxRecDepth 20000 in
theorem gt_192 : (.instantiable RB 2 : Cond) ∈ lw_tbl := List.mem_append_right _ (List.mem_of_getElem? (i := 205) rfl)
set_option maxRecDepth 20000 in
theorem gt_193 : (.instanceMethod yB_init : Cond) ∈ lw_tbl := List.mem_append_right _ (List.mem_of_getElem? (i := 207) rfl)
set_option maxRecDepth 20000 in
theorem gt_194 : (.code yB_init cB_init 1 none : Cond) ∈ lw_tbl := List.mem_append_right _ (List.mem_of_getElem? (i := 208) rfl)
set_option maxRecDepth 20000 in
theorem gt_195 : (.methodLink RB 1 objectInit : Cond) ∈ lw_tbl := List.mem_append_right _ (List.mem_of_getElem? (i := 209) rfl)
set_option maxRecDepth 20000 in
theorem gt_196 : (.fieldLink RB 9 "LoanDesk$BillBook" "entries" "[I" : Cond) ∈ lw_tbl := List.mem_append_right _ (List.mem_of_getElem? (i := 210) rfl)
set_option maxRecDepth 20000 in
theorem gt_197 : (.fieldLink RD 122 "LoanDesk$BillBook" "entries" "[I" : Cond) ∈ lw_tbl := List.mem_append_right _ (List.mem_of_getElem? (i := 211) rfl)
set_option maxRecDepth 20000 in
theorem gt_198 : (.fieldLink RB 13 "LoanDesk$BillBook" "count" "I" : Cond) ∈ lw_tbl := List.mem_append_right _ (List.mem_of_getElem? (i := 212) rfl)
set_option maxRecDepth 20000 in
theorem gt_199 : (.fieldLink RD 114 "LoanDesk$BillBook" "count" "I" : Cond) ∈ lw_tbl := List.mem_append_right _ (List.mem_of_getElem? (i := 213) rfl)
theorem gtc_4 : ∀ w ∈ GW_4, w ∈ lw_tbl := List.forall_mem_cons.mpr ⟨gt_160, List.forall_mem_cons.mpr ⟨gt_161, List.forall_mem_cons.mpr ⟨gt_162, List.forall_mem_cons.mpr ⟨gt_163, List.forall_mem_cons.mpr ⟨gt_164, List.forall_mem_cons.mpr ⟨gt_165, List.forall_mem_cons.mpr ⟨gt_166, List.forall_mem_cons.mpr ⟨gt_167, List.forall_mem_cons.mpr ⟨gt_168, List.forall_mem_cons.mpr ⟨gt_169, List.forall_mem_cons.mpr ⟨gt_170, List.forall_mem_cons.mpr ⟨gt_171, List.forall_mem_cons.mpr ⟨gt_172, List.forall_mem_cons.mpr ⟨gt_173, List.forall_mem_cons.mpr ⟨gt_174, List.forall_mem_cons.mpr ⟨gt_175, List.forall_mem_cons.mpr ⟨gt_176, List.forall_mem_cons.mpr ⟨gt_177, List.forall_mem_cons.mpr ⟨gt_178, List.forall_mem_cons.mpr ⟨gt_179, List.forall_mem_cons.mpr ⟨gt_180, List.forall_mem_cons.mpr ⟨gt_181, List.forall_mem_cons.mpr ⟨gt_182, List.forall_mem_cons.mpr ⟨gt_183, List.forall_mem_cons.mpr ⟨gt_184, List.forall_mem_cons.mpr ⟨gt_185, List.forall_mem_cons.mpr ⟨gt_186, List.forall_mem_cons.mpr ⟨gt_187, List.forall_mem_cons.mpr ⟨gt_188, List.forall_mem_cons.mpr ⟨gt_189, List.forall_mem_cons.mpr ⟨gt_190, List.forall_mem_cons.mpr ⟨gt_191, List.forall_mem_cons.mpr ⟨gt_192, List.forall_mem_cons.mpr ⟨gt_193, List.forall_mem_cons.mpr ⟨gt_194, List.forall_mem_cons.mpr ⟨gt_195, List.forall_mem_cons.mpr ⟨gt_196, List.forall_mem_cons.mpr ⟨gt_197, List.forall_mem_cons.mpr ⟨gt_198, List.forall_mem_cons.mpr ⟨gt_199, fun _ h => absurd h List.not_mem_nil⟩⟩⟩⟩⟩⟩⟩⟩⟩⟩⟩⟩⟩⟩⟩⟩⟩⟩⟩⟩⟩⟩⟩⟩⟩⟩⟩⟩⟩⟩⟩⟩⟩⟩⟩⟩⟩⟩⟩⟩
set_option maxRecDepth 20000 in
theorem gt_200 : (.laysFinal RB "LoanDesk$BillBook" "entries" "[I" : Cond) ∈ lw_tbl := List.mem_append_right _ (List.mem_of_getElem? (i := 214) rfl)
set_option maxRecDepth 20000 in
theorem gt_201 : ((Jvm.Cond.soleField "LoanDesk$BillBook" "entries") : Cond) ∈ lw_tbl := List.mem_append_right _ (List.mem_of_getElem? (i := 215) rfl)
set_option maxRecDepth 20000 in
theorem gt_202 : (.lays RB "LoanDesk$BillBook" "count" "I" : Cond) ∈ lw_tbl := List.mem_append_right _ (List.mem_of_getElem? (i := 216) rfl)
set_option maxRecDepth 20000 in
theorem gt_203 : ((Jvm.Cond.soleField "LoanDesk$BillBook" "count") : Cond) ∈ lw_tbl := List.mem_append_right _ (List.mem_of_getElem? (i := 217) rfl)
set_option maxRecDepth 20000 in
theorem gt_204 : ((Jvm.Cond.superclass "LoanDesk$BillBook" "java/lang/Object") : Cond) ∈ lw_tbl := List.mem_append_right _ (List.mem_of_getElem? (i := 218) rfl)
set_option maxRecDepth 20000 in
theorem gt_205 : (.arrayClass .int : Cond) ∈ lw_tbl := List.mem_append_right _ (List.mem_of_getElem? (i := 219) rfl)
set_option maxRecDepth 20000 in
theorem gt_206 : (.methodLink RN 43 yT_dueDay : Cond) ∈ lw_tbl := List.mem_append_right _ (List.mem_of_getElem? (i := 220) rfl)
set_option maxRecDepth 20000 in
theorem gt_207 : (.instanceMethod yT_dueDay : Cond) ∈ lw_tbl := List.mem_append_right _ (List.mem_of_getElem? (i := 221) rfl)
set_option maxRecDepth 20000 in
theorem gt_208 : (.selects RT yT_dueDay yT_dueDay : Cond) ∈ lw_tbl := List.mem_append_right _ (List.mem_of_getElem? (i := 222) rfl)
set_option maxRecDepth 20000 in
theorem gt_209 : (.code yT_dueDay cT_dueDay 4 (some .int) : Cond) ∈ lw_tbl := List.mem_append_right _ (List.mem_of_getElem? (i := 223) rfl)
set_option maxRecDepth 20000 in
theorem gt_210 : (.methodLink RT 40 yY_firstDayOf : Cond) ∈ lw_tbl := List.mem_append_right _ (List.mem_of_getElem? (i := 224) rfl)
set_option maxRecDepth 20000 in
theorem gt_211 : (.methodLink RT 43 Lib.Math.min.name : Cond) ∈ lw_tbl := List.mem_append_right _ (List.mem_of_getElem? (i := 225) rfl)
set_option maxRecDepth 20000 in
theorem gt_212 : (.static Lib.Math.min.name : Cond) ∈ lw_tbl := List.mem_append_right _ (List.mem_of_getElem? (i := 226) rfl)
set_option maxRecDepth 20000 in
theorem gt_213 : (.code Lib.Math.min.name Lib.Math.min.code 2 (some .int) : Cond) ∈ lw_tbl := List.mem_append_right _ (List.mem_of_getElem? (i := 227) rfl)
set_option maxRecDepth 20000 in
theorem gt_214 : (.fieldLink RN 9 "LoanDesk$Loan" "terms" "LLoanDesk$Terms;" : Cond) ∈ lw_tbl := List.mem_append_right _ (List.mem_of_getElem? (i := 228) rfl)
set_option maxRecDepth 20000 in
theorem gt_215 : (.fieldLink RD 85 "LoanDesk$Loan" "terms" "LLoanDesk$Terms;" : Cond) ∈ lw_tbl := List.mem_append_right _ (List.mem_of_getElem? (i := 229) rfl)
set_option maxRecDepth 20000 in
theorem gt_216 : (.fieldLink RN 22 "LoanDesk$Loan" "account" "LLoanDesk$Account;" : Cond) ∈ lw_tbl := List.mem_append_right _ (List.mem_of_getElem? (i := 230) rfl)
set_option maxRecDepth 20000 in
theorem gt_217 : (.fieldLink RD 50 "LoanDesk$Loan" "account" "LLoanDesk$Account;" : Cond) ∈ lw_tbl := List.mem_append_right _ (List.mem_of_getElem? (i := 231) rfl)
set_option maxRecDepth 20000 in
theorem gt_218 : (.fieldLink RN 29 "LoanDesk$Loan" "billBook" "LLoanDesk$BillBook;" : Cond) ∈ lw_tbl := List.mem_append_right _ (List.mem_of_getElem? (i := 232) rfl)
set_option maxRecDepth 20000 in
theorem gt_219 : (.fieldLink RD 110 "LoanDesk$Loan" "billBook" "LLoanDesk$BillBook;" : Cond) ∈ lw_tbl := List.mem_append_right _ (List.mem_of_getElem? (i := 233) rfl)
set_option maxRecDepth 20000 in
theorem gt_220 : (.fieldLink RN 33 "LoanDesk$Loan" "owed" "[I" : Cond) ∈ lw_tbl := List.mem_append_right _ (List.mem_of_getElem? (i := 234) rfl)
set_option maxRecDepth 20000 in
theorem gt_221 : (.fieldLink RD 101 "LoanDesk$Loan" "owed" "[I" : Cond) ∈ lw_tbl := List.mem_append_right _ (List.mem_of_getElem? (i := 235) rfl)
set_option maxRecDepth 20000 in
theorem gt_222 : (.fieldLink RN 37 "LoanDesk$Loan" "parts" "[I" : Cond) ∈ lw_tbl := List.mem_append_right _ (List.mem_of_getElem? (i := 236) rfl)
set_option maxRecDepth 20000 in
theorem gt_223 : (.fieldLink RD 72 "LoanDesk$Loan" "parts" "[I" : Cond) ∈ lw_tbl := List.mem_append_right _ (List.mem_of_getElem? (i := 237) rfl)
set_option maxRecDepth 20000 in
theorem gt_224 : (.fieldLink RD 68 "LoanDesk$Loan" "wasPaid" "Z" : Cond) ∈ lw_tbl := List.mem_append_right _ (List.mem_of_getElem? (i := 238) rfl)
set_option maxRecDepth 20000 in
theorem gt_225 : (.fieldLink RN 139 "LoanDesk$Loan" "wasPaid" "Z" : Cond) ∈ lw_tbl := List.mem_append_right _ (List.mem_of_getElem? (i := 239) rfl)
set_option maxRecDepth 20000 in
theorem gt_226 : (.fieldLink RN 15 "LoanDesk$Loan" "principal" "I" : Cond) ∈ lw_tbl := List.mem_append_right _ (List.mem_of_getElem? (i := 240) rfl)
set_option maxRecDepth 20000 in
theorem gt_227 : (.fieldLink RD 92 "LoanDesk$Loan" "principal" "I" : Cond) ∈ lw_tbl := List.mem_append_right _ (List.mem_of_getElem? (i := 241) rfl)
set_option maxRecDepth 20000 in
theorem gt_228 : (.fieldLink RN 121 "LoanDesk$Loan" "level" "I" : Cond) ∈ lw_tbl := List.mem_append_right _ (List.mem_of_getElem? (i := 242) rfl)
set_option maxRecDepth 20000 in
theorem gt_229 : (.fieldLink RD 95 "LoanDesk$Loan" "level" "I" : Cond) ∈ lw_tbl := List.mem_append_right _ (List.mem_of_getElem? (i := 243) rfl)
set_option maxRecDepth 20000 in
theorem gt_230 : (.fieldLink RN 64 "LoanDesk$Loan" "accrued" "I" : Cond) ∈ lw_tbl := List.mem_append_right _ (List.mem_of_getElem? (i := 244) rfl)
set_option maxRecDepth 20000 in
theorem gt_231 : (.fieldLink RN 40 "LoanDesk$Loan" "accruedUpTo" "I" : Cond) ∈ lw_tbl := List.mem_append_right _ (List.mem_of_getElem? (i := 245) rfl)
set_option maxRecDepth 20000 in
theorem gt_232 : (.fieldLink RN 89 "LoanDesk$Loan" "dueDaysPassed" "I" : Cond) ∈ lw_tbl := List.mem_append_right _ (List.mem_of_getElem? (i := 246) rfl)
set_option maxRecDepth 20000 in
theorem gt_233 : (.fieldLink RN 49 "LoanDesk$Loan" "nextDueDay" "I" : Cond) ∈ lw_tbl := List.mem_append_right _ (List.mem_of_getElem? (i := 247) rfl)
set_option maxRecDepth 20000 in
theorem gt_234 : (.fieldLink RN 52 "LoanDesk$Loan" "spanTops" "[I" : Cond) ∈ lw_tbl := List.mem_append_right _ (List.mem_of_getElem? (i := 248) rfl)
set_option maxRecDepth 20000 in
theorem gt_235 : (.laysFinal RN "LoanDesk$Loan" "terms" "LLoanDesk$Terms;" : Cond) ∈ lw_tbl := List.mem_append_right _ (List.mem_of_getElem? (i := 249) rfl)
set_option maxRecDepth 20000 in
theorem gt_236 : ((Jvm.Cond.soleField "LoanDesk$Loan" "terms") : Cond) ∈ lw_tbl := List.mem_append_right _ (List.mem_of_getElem? (i := 250) rfl)
set_option maxRecDepth 20000 in
theorem gt_237 : (.laysFinal RN "LoanDesk$Loan" "account" "LLoanDesk$Account;" : Cond) ∈ lw_tbl := List.mem_append_right _ (List.mem_of_getElem? (i := 251) rfl)
set_option maxRecDepth 20000 in
theorem gt_238 : ((Jvm.Cond.soleField "LoanDesk$Loan" "account") : Cond) ∈ lw_tbl := List.mem_append_right _ (List.mem_of_getElem? (i := 252) rfl)
set_option maxRecDepth 20000 in
theorem gt_239 : (.laysFinal RN "LoanDesk$Loan" "billBook" "LLoanDesk$BillBook;" : Cond) ∈ lw_tbl := List.mem_append_right _ (List.mem_of_getElem? (i := 253) rfl)
theorem gtc_5 : ∀ w ∈ GW_5, w ∈ lw_tbl := List.forall_mem_cons.mpr ⟨gt_200, List.forall_mem_cons.mpr ⟨gt_201, List.forall_mem_cons.mpr ⟨gt_202, List.forall_mem_cons.mpr ⟨gt_203, List.forall_mem_cons.mpr ⟨gt_204, List.forall_mem_cons.mpr ⟨gt_205, List.forall_mem_cons.mpr ⟨gt_206, List.forall_mem_cons.mpr ⟨gt_207, List.forall_mem_cons.mpr ⟨gt_208, List.forall_mem_cons.mpr ⟨gt_209, List.forall_mem_cons.mpr ⟨gt_210, List.forall_mem_cons.mpr ⟨gt_211, List.forall_mem_cons.mpr ⟨gt_212, List.forall_mem_cons.mpr ⟨gt_213, List.forall_mem_cons.mpr ⟨gt_214, List.forall_mem_cons.mpr ⟨gt_215, List.forall_mem_cons.mpr ⟨gt_216, List.forall_mem_cons.mpr ⟨gt_217, List.forall_mem_cons.mpr ⟨gt_218, List.forall_mem_cons.mpr ⟨gt_219, List.forall_mem_cons.mpr ⟨gt_220, List.forall_mem_cons.mpr ⟨gt_221, List.forall_mem_cons.mpr ⟨gt_222, List.forall_mem_cons.mpr ⟨gt_223, List.forall_mem_cons.mpr ⟨gt_224, List.forall_mem_cons.mpr ⟨gt_225, List.forall_mem_cons.mpr ⟨gt_226, List.forall_mem_cons.mpr ⟨gt_227, List.forall_mem_cons.mpr ⟨gt_228, List.forall_mem_cons.mpr ⟨gt_229, List.forall_mem_cons.mpr ⟨gt_230, List.forall_mem_cons.mpr ⟨gt_231, List.forall_mem_cons.mpr ⟨gt_232, List.forall_mem_cons.mpr ⟨gt_233, List.forall_mem_cons.mpr ⟨gt_234, List.forall_mem_cons.mpr ⟨gt_235, List.forall_mem_cons.mpr ⟨gt_236, List.forall_mem_cons.mpr ⟨gt_237, List.forall_mem_cons.mpr ⟨gt_238, List.forall_mem_cons.mpr ⟨gt_239, fun _ h => absurd h List.not_mem_nil⟩⟩⟩⟩⟩⟩⟩⟩⟩⟩⟩⟩⟩⟩⟩⟩⟩⟩⟩⟩⟩⟩⟩⟩⟩⟩⟩⟩⟩⟩⟩⟩⟩⟩⟩⟩⟩⟩⟩⟩
set_option maxRecDepth 20000 in
theorem gt_240 : ((Jvm.Cond.soleField "LoanDesk$Loan" "billBook") : Cond) ∈ lw_tbl := List.mem_append_right _ (List.mem_of_getElem? (i := 254) rfl)
set_option maxRecDepth 20000 in
theorem gt_241 : (.laysFinal RN "LoanDesk$Loan" "owed" "[I" : Cond) ∈ lw_tbl := List.mem_append_right _ (List.mem_of_getElem? (i := 255) rfl)
set_option maxRecDepth 20000 in
theorem gt_242 : ((Jvm.Cond.soleField "LoanDesk$Loan" "owed") : Cond) ∈ lw_tbl := List.mem_append_right _ (List.mem_of_getElem? (i := 256) rfl)
set_option maxRecDepth 20000 in
theorem gt_243 : (.laysFinal RN "LoanDesk$Loan" "parts" "[I" : Cond) ∈ lw_tbl := List.mem_append_right _ (List.mem_of_getElem? (i := 257) rfl)
set_option maxRecDepth 20000 in
theorem gt_244 : ((Jvm.Cond.soleField "LoanDesk$Loan" "parts") : Cond) ∈ lw_tbl := List.mem_append_right _ (List.mem_of_getElem? (i := 258) rfl)
set_option maxRecDepth 20000 in
theorem gt_245 : (.lays RN "LoanDesk$Loan" "wasPaid" "Z" : Cond) ∈ lw_tbl := List.mem_append_right _ (List.mem_of_getElem? (i := 259) rfl)
set_option maxRecDepth 20000 in
theorem gt_246 : ((Jvm.Cond.soleField "LoanDesk$Loan" "wasPaid") : Cond) ∈ lw_tbl := List.mem_append_right _ (List.mem_of_getElem? (i := 260) rfl)
set_option maxRecDepth 20000 in
theorem gt_247 : (.lays RN "LoanDesk$Loan" "principal" "I" : Cond) ∈ lw_tbl := List.mem_append_right _ (List.mem_of_getElem? (i := 261) rfl)
set_option maxRecDepth 20000 in
theorem gt_248 : ((Jvm.Cond.soleField "LoanDesk$Loan" "principal") : Cond) ∈ lw_tbl := List.mem_append_right _ (List.mem_of_getElem? (i := 262) rfl)
set_option maxRecDepth 20000 in
theorem gt_249 : (.lays RN "LoanDesk$Loan" "level" "I" : Cond) ∈ lw_tbl := List.mem_append_right _ (List.mem_of_getElem? (i := 263) rfl)
set_option maxRecDepth 20000 in
theorem gt_250 : ((Jvm.Cond.soleField "LoanDesk$Loan" "level") : Cond) ∈ lw_tbl := List.mem_append_right _ (List.mem_of_getElem? (i := 264) rfl)
set_option maxRecDepth 20000 in
theorem gt_251 : (.lays RN "LoanDesk$Loan" "accrued" "I" : Cond) ∈ lw_tbl := List.mem_append_right _ (List.mem_of_getElem? (i := 265) rfl)
set_option maxRecDepth 20000 in
theorem gt_252 : ((Jvm.Cond.soleField "LoanDesk$Loan" "accrued") : Cond) ∈ lw_tbl := List.mem_append_right _ (List.mem_of_getElem? (i := 266) rfl)
set_option maxRecDepth 20000 in
theorem gt_253 : (.lays RN "LoanDesk$Loan" "accruedUpTo" "I" : Cond) ∈ lw_tbl := List.mem_append_right _ (List.mem_of_getElem? (i := 267) rfl)
set_option maxRecDepth 20000 in
theorem gt_254 : ((Jvm.Cond.soleField "LoanDesk$Loan" "accruedUpTo") : Cond) ∈ lw_tbl := List.mem_append_right _ (List.mem_of_getElem? (i := 268) rfl)
set_option maxRecDepth 20000 in
theorem gt_255 : (.lays RN "LoanDesk$Loan" "dueDaysPassed" "I" : Cond) ∈ lw_tbl := List.mem_append_right _ (List.mem_of_getElem? (i := 269) rfl)
set_option maxRecDepth 20000 in
theorem gt_256 : ((Jvm.Cond.soleField "LoanDesk$Loan" "dueDaysPassed") : Cond) ∈ lw_tbl := List.mem_append_right _ (List.mem_of_getElem? (i := 270) rfl)
set_option maxRecDepth 20000 in
theorem gt_257 : (.lays RN "LoanDesk$Loan" "nextDueDay" "I" : Cond) ∈ lw_tbl := List.mem_append_right _ (List.mem_of_getElem? (i := 271) rfl)
set_option maxRecDepth 20000 in
theorem gt_258 : ((Jvm.Cond.soleField "LoanDesk$Loan" "nextDueDay") : Cond) ∈ lw_tbl := List.mem_append_right _ (List.mem_of_getElem? (i := 272) rfl)
set_option maxRecDepth 20000 in
theorem gt_259 : (.laysFinal RN "LoanDesk$Loan" "spanTops" "[I" : Cond) ∈ lw_tbl := List.mem_append_right _ (List.mem_of_getElem? (i := 273) rfl)
set_option maxRecDepth 20000 in
theorem gt_260 : ((Jvm.Cond.soleField "LoanDesk$Loan" "spanTops") : Cond) ∈ lw_tbl := List.mem_append_right _ (List.mem_of_getElem? (i := 274) rfl)
set_option maxRecDepth 20000 in
theorem gt_261 : ((Jvm.Cond.superclass "LoanDesk$Loan" "java/lang/Object") : Cond) ∈ lw_tbl := List.mem_append_right _ (List.mem_of_getElem? (i := 275) rfl)
set_option maxRecDepth 20000 in
theorem gt_262 : (.methodLink RD 41 yN_reckonLevel : Cond) ∈ lw_tbl := List.mem_append_right _ (List.mem_of_getElem? (i := 276) rfl)
set_option maxRecDepth 20000 in
theorem gt_263 : (.instanceMethod yN_reckonLevel : Cond) ∈ lw_tbl := List.mem_append_right _ (List.mem_of_getElem? (i := 277) rfl)
set_option maxRecDepth 20000 in
theorem gt_264 : (.selects RN yN_reckonLevel yN_reckonLevel : Cond) ∈ lw_tbl := List.mem_append_right _ (List.mem_of_getElem? (i := 278) rfl)
set_option maxRecDepth 20000 in
theorem gt_265 : (.code yN_reckonLevel cN_reckonLevel 4 none : Cond) ∈ lw_tbl := List.mem_append_right _ (List.mem_of_getElem? (i := 279) rfl)
set_option maxRecDepth 20000 in
theorem gt_266 : (.methodLink RN 149 yN_layOutSpans : Cond) ∈ lw_tbl := List.mem_append_right _ (List.mem_of_getElem? (i := 280) rfl)
set_option maxRecDepth 20000 in
theorem gt_267 : (.instanceMethod yN_layOutSpans : Cond) ∈ lw_tbl := List.mem_append_right _ (List.mem_of_getElem? (i := 282) rfl)
set_option maxRecDepth 20000 in
theorem gt_268 : (.code yN_layOutSpans cN_layOutSpans 6 (some .int) : Cond) ∈ lw_tbl := List.mem_append_right _ (List.mem_of_getElem? (i := 283) rfl)
set_option maxRecDepth 20000 in
theorem gt_269 : (.methodLink RN 58 yS_top : Cond) ∈ lw_tbl := List.mem_append_right _ (List.mem_of_getElem? (i := 284) rfl)
set_option maxRecDepth 20000 in
theorem gt_270 : (.static yS_top : Cond) ∈ lw_tbl := List.mem_append_right _ (List.mem_of_getElem? (i := 285) rfl)
set_option maxRecDepth 20000 in
theorem gt_271 : (.code yS_top cS_top 4 (some .int) : Cond) ∈ lw_tbl := List.mem_append_right _ (List.mem_of_getElem? (i := 286) rfl)
set_option maxRecDepth 20000 in
theorem gt_272 : (.methodLink RS 7 yY_thirties : Cond) ∈ lw_tbl := List.mem_append_right _ (List.mem_of_getElem? (i := 287) rfl)
set_option maxRecDepth 20000 in
theorem gt_273 : (.static yY_thirties : Cond) ∈ lw_tbl := List.mem_append_right _ (List.mem_of_getElem? (i := 288) rfl)
set_option maxRecDepth 20000 in
theorem gt_274 : (.code yY_thirties cY_thirties 3 (some .int) : Cond) ∈ lw_tbl := List.mem_append_right _ (List.mem_of_getElem? (i := 289) rfl)
set_option maxRecDepth 20000 in
theorem gt_275 : (.methodLink RY 16 Lib.Math.min.name : Cond) ∈ lw_tbl := List.mem_append_right _ (List.mem_of_getElem? (i := 290) rfl)
set_option maxRecDepth 20000 in
theorem gt_276 : (.methodLink RS 13 yY_inLongYears : Cond) ∈ lw_tbl := List.mem_append_right _ (List.mem_of_getElem? (i := 291) rfl)
set_option maxRecDepth 20000 in
theorem gt_277 : (.static yY_inLongYears : Cond) ∈ lw_tbl := List.mem_append_right _ (List.mem_of_getElem? (i := 292) rfl)
set_option maxRecDepth 20000 in
theorem gt_278 : (.code yY_inLongYears cY_inLongYears 1 (some .int) : Cond) ∈ lw_tbl := List.mem_append_right _ (List.mem_of_getElem? (i := 293) rfl)
set_option maxRecDepth 20000 in
theorem gt_279 : (.methodLink RN 152 yN_leastLevel : Cond) ∈ lw_tbl := List.mem_append_right _ (List.mem_of_getElem? (i := 294) rfl)
theorem gtc_6 : ∀ w ∈ GW_6, w ∈ lw_tbl := List.forall_mem_cons.mpr ⟨gt_240, List.forall_mem_cons.mpr ⟨gt_241, List.forall_mem_cons.mpr ⟨gt_242, List.forall_mem_cons.mpr ⟨gt_243, List.forall_mem_cons.mpr ⟨gt_244, List.forall_mem_cons.mpr ⟨gt_245, List.forall_mem_cons.mpr ⟨gt_246, List.forall_mem_cons.mpr ⟨gt_247, List.forall_mem_cons.mpr ⟨gt_248, List.forall_mem_cons.mpr ⟨gt_249, List.forall_mem_cons.mpr ⟨gt_250, List.forall_mem_cons.mpr ⟨gt_251, List.forall_mem_cons.mpr ⟨gt_252, List.forall_mem_cons.mpr ⟨gt_253, List.forall_mem_cons.mpr ⟨gt_254, List.forall_mem_cons.mpr ⟨gt_255, List.forall_mem_cons.mpr ⟨gt_256, List.forall_mem_cons.mpr ⟨gt_257, List.forall_mem_cons.mpr ⟨gt_258, List.forall_mem_cons.mpr ⟨gt_259, List.forall_mem_cons.mpr ⟨gt_260, List.forall_mem_cons.mpr ⟨gt_261, List.forall_mem_cons.mpr ⟨gt_262, List.forall_mem_cons.mpr ⟨gt_263, List.forall_mem_cons.mpr ⟨gt_264, List.forall_mem_cons.mpr ⟨gt_265, List.forall_mem_cons.mpr ⟨gt_266, List.forall_mem_cons.mpr ⟨gt_267, List.forall_mem_cons.mpr ⟨gt_268, List.forall_mem_cons.mpr ⟨gt_269, List.forall_mem_cons.mpr ⟨gt_270, List.forall_mem_cons.mpr ⟨gt_271, List.forall_mem_cons.mpr ⟨gt_272, List.forall_mem_cons.mpr ⟨gt_273, List.forall_mem_cons.mpr ⟨gt_274, List.forall_mem_cons.mpr ⟨gt_275, List.forall_mem_cons.mpr ⟨gt_276, List.forall_mem_cons.mpr ⟨gt_277, List.forall_mem_cons.mpr ⟨gt_278, List.forall_mem_cons.mpr ⟨gt_279, fun _ h => absurd h List.not_mem_nil⟩⟩⟩⟩⟩⟩⟩⟩⟩⟩⟩⟩⟩⟩⟩⟩⟩⟩⟩⟩⟩⟩⟩⟩⟩⟩⟩⟩⟩⟩⟩⟩⟩⟩⟩⟩⟩⟩⟩⟩
set_option maxRecDepth 20000 in
theorem gt_280 : (.instanceMethod yN_leastLevel : Cond) ∈ lw_tbl := List.mem_append_right _ (List.mem_of_getElem? (i := 296) rfl)
set_option maxRecDepth 20000 in
theorem gt_281 : (.code yN_leastLevel cN_leastLevel 7 (some .int) : Cond) ∈ lw_tbl := List.mem_append_right _ (List.mem_of_getElem? (i := 297) rfl)
set_option maxRecDepth 20000 in
theorem gt_282 : (.methodLink RN 73 yC_interestOn : Cond) ∈ lw_tbl := List.mem_append_right _ (List.mem_of_getElem? (i := 298) rfl)
set_option maxRecDepth 20000 in
theorem gt_283 : (.static yC_interestOn : Cond) ∈ lw_tbl := List.mem_append_right _ (List.mem_of_getElem? (i := 299) rfl)
set_option maxRecDepth 20000 in
theorem gt_284 : (.code yC_interestOn cC_interestOn 5 (some .int) : Cond) ∈ lw_tbl := List.mem_append_right _ (List.mem_of_getElem? (i := 300) rfl)
set_option maxRecDepth 20000 in
theorem gt_285 : (.constantLong RC 9 (100000) : Cond) ∈ lw_tbl := List.mem_append_right _ (List.mem_of_getElem? (i := 301) rfl)
set_option maxRecDepth 20000 in
theorem gt_286 : (.methodLink RC 11 yS_bottom : Cond) ∈ lw_tbl := List.mem_append_right _ (List.mem_of_getElem? (i := 302) rfl)
set_option maxRecDepth 20000 in
theorem gt_287 : (.static yS_bottom : Cond) ∈ lw_tbl := List.mem_append_right _ (List.mem_of_getElem? (i := 303) rfl)
set_option maxRecDepth 20000 in
theorem gt_288 : (.code yS_bottom cS_bottom 1 (some .int) : Cond) ∈ lw_tbl := List.mem_append_right _ (List.mem_of_getElem? (i := 304) rfl)
set_option maxRecDepth 20000 in
theorem gt_289 : (.constant RS 16 (133590) : Cond) ∈ lw_tbl := List.mem_append_right _ (List.mem_of_getElem? (i := 305) rfl)
set_option maxRecDepth 20000 in
theorem gt_290 : (.methodLink RC 17 yC_rounded : Cond) ∈ lw_tbl := List.mem_append_right _ (List.mem_of_getElem? (i := 306) rfl)
set_option maxRecDepth 20000 in
theorem gt_291 : (.static yC_rounded : Cond) ∈ lw_tbl := List.mem_append_right _ (List.mem_of_getElem? (i := 307) rfl)
set_option maxRecDepth 20000 in
theorem gt_292 : (.code yC_rounded cC_rounded 10 (some .int) : Cond) ∈ lw_tbl := List.mem_append_right _ (List.mem_of_getElem? (i := 308) rfl)
set_option maxRecDepth 20000 in
theorem gt_293 : (.constantLong RC 21 (2) : Cond) ∈ lw_tbl := List.mem_append_right _ (List.mem_of_getElem? (i := 309) rfl)
set_option maxRecDepth 20000 in
theorem gt_294 : (.methodLink RN 155 yN_leftInTheEnd : Cond) ∈ lw_tbl := List.mem_append_right _ (List.mem_of_getElem? (i := 310) rfl)
set_option maxRecDepth 20000 in
theorem gt_295 : (.instanceMethod yN_leftInTheEnd : Cond) ∈ lw_tbl := List.mem_append_right _ (List.mem_of_getElem? (i := 312) rfl)
set_option maxRecDepth 20000 in
theorem gt_296 : (.code yN_leftInTheEnd cN_leftInTheEnd 7 (some .int) : Cond) ∈ lw_tbl := List.mem_append_right _ (List.mem_of_getElem? (i := 313) rfl)
set_option maxRecDepth 20000 in
theorem gt_297 : (.methodLink RN 130 Lib.Math.min.name : Cond) ∈ lw_tbl := List.mem_append_right _ (List.mem_of_getElem? (i := 314) rfl)
set_option maxRecDepth 20000 in
theorem gt_298 : (.methodLink RL 82 yL_charge : Cond) ∈ lw_tbl := List.mem_append_right _ (List.mem_of_getElem? (i := 315) rfl)
set_option maxRecDepth 20000 in
theorem gt_299 : (.static yL_charge : Cond) ∈ lw_tbl := List.mem_append_right _ (List.mem_of_getElem? (i := 316) rfl)
set_option maxRecDepth 20000 in
theorem gt_300 : (.codeWith yL_charge cL_charge 4 (some .int) [(0, 6, 9, 21), (0, 6, 12, 13)] : Cond) ∈ lw_tbl := List.mem_append_right _ (List.mem_of_getElem? (i := 317) rfl)
set_option maxRecDepth 20000 in
theorem gt_301 : (.classLink RL 21 "java/lang/IndexOutOfBoundsException" : Cond) ∈ lw_tbl := List.mem_append_right _ (List.mem_of_getElem? (i := 318) rfl)
set_option maxRecDepth 20000 in
theorem gt_302 : (.methodLink RL 17 yD_charge : Cond) ∈ lw_tbl := List.mem_append_right _ (List.mem_of_getElem? (i := 319) rfl)
set_option maxRecDepth 20000 in
theorem gt_303 : (.instanceMethod yD_charge : Cond) ∈ lw_tbl := List.mem_append_right _ (List.mem_of_getElem? (i := 320) rfl)
set_option maxRecDepth 20000 in
theorem gt_304 : (.selects RD yD_charge yD_charge : Cond) ∈ lw_tbl := List.mem_append_right _ (List.mem_of_getElem? (i := 321) rfl)
set_option maxRecDepth 20000 in
theorem gt_305 : (.code yD_charge cD_charge 4 none : Cond) ∈ lw_tbl := List.mem_append_right _ (List.mem_of_getElem? (i := 322) rfl)
set_option maxRecDepth 20000 in
theorem gt_306 : (.methodLink RD 45 yD_find : Cond) ∈ lw_tbl := List.mem_append_right _ (List.mem_of_getElem? (i := 323) rfl)
set_option maxRecDepth 20000 in
theorem gt_307 : (.instanceMethod yD_find : Cond) ∈ lw_tbl := List.mem_append_right _ (List.mem_of_getElem? (i := 325) rfl)
set_option maxRecDepth 20000 in
theorem gt_308 : (.code yD_find cD_find 2 (some (.object "LoanDesk$Loan")) : Cond) ∈ lw_tbl := List.mem_append_right _ (List.mem_of_getElem? (i := 326) rfl)
set_option maxRecDepth 20000 in
theorem gt_309 : (.classLink RD 137 "java/lang/IndexOutOfBoundsException" : Cond) ∈ lw_tbl := List.mem_append_right _ (List.mem_of_getElem? (i := 327) rfl)
set_option maxRecDepth 20000 in
theorem gt_310 : (.instantiable "java/lang/IndexOutOfBoundsException" 6 : Cond) ∈ lw_tbl := List.mem_append_right _ (List.mem_of_getElem? (i := 328) rfl)
set_option maxRecDepth 20000 in
theorem gt_311 : (.selects "java/lang/IndexOutOfBoundsException" ⟨"java/lang/Throwable", "fillInStackTrace", "(I)Ljava/lang/Throwable;"⟩ ⟨"java/lang/Throwable", "fillInStackTrace", "(I)Ljava/lang/Throwable;"⟩ : Cond) ∈ lw_tbl := List.mem_append_right _ (List.mem_of_getElem? (i := 330) rfl)
set_option maxRecDepth 20000 in
theorem gt_312 : (.lays "java/lang/IndexOutOfBoundsException" "java/lang/Throwable" "cause" "Ljava/lang/Throwable;" : Cond) ∈ lw_tbl := List.mem_append_right _ (List.mem_of_getElem? (i := 331) rfl)
set_option maxRecDepth 20000 in
theorem gt_313 : (.lays "java/lang/IndexOutOfBoundsException" "java/lang/Throwable" "stackTrace" "[Ljava/lang/StackTraceElement;" : Cond) ∈ lw_tbl := List.mem_append_right _ (List.mem_of_getElem? (i := 332) rfl)
set_option maxRecDepth 20000 in
theorem gt_314 : (.lays "java/lang/IndexOutOfBoundsException" "java/lang/Throwable" "suppressedExceptions" "Ljava/util/List;" : Cond) ∈ lw_tbl := List.mem_append_right _ (List.mem_of_getElem? (i := 333) rfl)
set_option maxRecDepth 20000 in
theorem gt_315 : (.lays "java/lang/IndexOutOfBoundsException" "java/lang/Throwable" "detailMessage" "Ljava/lang/String;" : Cond) ∈ lw_tbl := List.mem_append_right _ (List.mem_of_getElem? (i := 334) rfl)
set_option maxRecDepth 20000 in
theorem gt_316 : (.lays "java/lang/IndexOutOfBoundsException" "java/lang/Throwable" "backtrace" "Ljava/lang/Object;" : Cond) ∈ lw_tbl := List.mem_append_right _ (List.mem_of_getElem? (i := 335) rfl)
set_option maxRecDepth 20000 in
theorem gt_317 : (.methodLink RD 139 ⟨"java/lang/IndexOutOfBoundsException", "<init>", "()V"⟩ : Cond) ∈ lw_tbl := List.mem_append_right _ (List.mem_of_getElem? (i := 336) rfl)
set_option maxRecDepth 20000 in
theorem gt_318 : (.instanceMethod ⟨"java/lang/IndexOutOfBoundsException", "<init>", "()V"⟩ : Cond) ∈ lw_tbl := List.mem_append_right _ (List.mem_of_getElem? (i := 337) rfl)
set_option maxRecDepth 20000 in
theorem gt_319 : ((Jvm.Cond.code ({ cls := "java/lang/IndexOutOfBoundsException", name := "<init>", desc := "()V" } : Jvm.MethodName) prog_14_method_1_code (1 : Nat) (Option.none : Option Jvm.ClassFile.FieldType)) : Cond) ∈ lw_tbl := List.mem_append_right _ (List.mem_of_getElem? (i := 338) rfl)
theorem gtc_7 : ∀ w ∈ GW_7, w ∈ lw_tbl := List.forall_mem_cons.mpr ⟨gt_280, List.forall_mem_cons.mpr ⟨gt_281, List.forall_mem_cons.mpr ⟨gt_282, List.forall_mem_cons.mpr ⟨gt_283, List.forall_mem_cons.mpr ⟨gt_284, List.forall_mem_cons.mpr ⟨gt_285, List.forall_mem_cons.mpr ⟨gt_286, List.forall_mem_cons.mpr ⟨gt_287, List.forall_mem_cons.mpr ⟨gt_288, List.forall_mem_cons.mpr ⟨gt_289, List.forall_mem_cons.mpr ⟨gt_290, List.forall_mem_cons.mpr ⟨gt_291, List.forall_mem_cons.mpr ⟨gt_292, List.forall_mem_cons.mpr ⟨gt_293, List.forall_mem_cons.mpr ⟨gt_294, List.forall_mem_cons.mpr ⟨gt_295, List.forall_mem_cons.mpr ⟨gt_296, List.forall_mem_cons.mpr ⟨gt_297, List.forall_mem_cons.mpr ⟨gt_298, List.forall_mem_cons.mpr ⟨gt_299, List.forall_mem_cons.mpr ⟨gt_300, List.forall_mem_cons.mpr ⟨gt_301, List.forall_mem_cons.mpr ⟨gt_302, List.forall_mem_cons.mpr ⟨gt_303, List.forall_mem_cons.mpr ⟨gt_304, List.forall_mem_cons.mpr ⟨gt_305, List.forall_mem_cons.mpr ⟨gt_306, List.forall_mem_cons.mpr ⟨gt_307, List.forall_mem_cons.mpr ⟨gt_308, List.forall_mem_cons.mpr ⟨gt_309, List.forall_mem_cons.mpr ⟨gt_310, List.forall_mem_cons.mpr ⟨gt_311, List.forall_mem_cons.mpr ⟨gt_312, List.forall_mem_cons.mpr ⟨gt_313, List.forall_mem_cons.mpr ⟨gt_314, List.forall_mem_cons.mpr ⟨gt_315, List.forall_mem_cons.mpr ⟨gt_316, List.forall_mem_cons.mpr ⟨gt_317, List.forall_mem_cons.mpr ⟨gt_318, List.forall_mem_cons.mpr ⟨gt_319, fun _ h => absurd h List.not_mem_nil⟩⟩⟩⟩⟩⟩⟩⟩⟩⟩⟩⟩⟩⟩⟩⟩⟩⟩⟩⟩⟩⟩⟩⟩⟩⟩⟩⟩⟩⟩⟩⟩⟩⟩⟩⟩⟩⟩⟩⟩
set_option maxRecDepth 20000 in
theorem gt_320 : (.methodLink "java/lang/IndexOutOfBoundsException" 1 ⟨"java/lang/RuntimeException", "<init>", "()V"⟩ : Cond) ∈ lw_tbl := List.mem_append_right _ (List.mem_of_getElem? (i := 339) rfl)
set_option maxRecDepth 20000 in
theorem gt_321 : (.lays "java/lang/IndexOutOfBoundsException" "java/lang/Throwable" "depth" "I" : Cond) ∈ lw_tbl := List.mem_append_right _ (List.mem_of_getElem? (i := 340) rfl)
set_option maxRecDepth 20000 in
theorem gt_322 : ((Jvm.Cond.superclass "java/lang/IndexOutOfBoundsException" "java/lang/RuntimeException") : Cond) ∈ lw_tbl := List.mem_append_right _ (List.mem_of_getElem? (i := 341) rfl)
set_option maxRecDepth 20000 in
theorem gt_323 : (.constant RD 49 (10000000) : Cond) ∈ lw_tbl := List.mem_append_right _ (List.mem_of_getElem? (i := 342) rfl)
set_option maxRecDepth 20000 in
theorem gt_324 : (.methodLink RD 54 yA_agreeOn : Cond) ∈ lw_tbl := List.mem_append_right _ (List.mem_of_getElem? (i := 343) rfl)
set_option maxRecDepth 20000 in
theorem gt_325 : (.instanceMethod yA_agreeOn : Cond) ∈ lw_tbl := List.mem_append_right _ (List.mem_of_getElem? (i := 344) rfl)
set_option maxRecDepth 20000 in
theorem gt_326 : (.selects RA yA_agreeOn yA_agreeOn : Cond) ∈ lw_tbl := List.mem_append_right _ (List.mem_of_getElem? (i := 345) rfl)
set_option maxRecDepth 20000 in
theorem gt_327 : (.code yA_agreeOn cA_agreeOn 2 none : Cond) ∈ lw_tbl := List.mem_append_right _ (List.mem_of_getElem? (i := 346) rfl)
set_option maxRecDepth 20000 in
theorem gt_328 : (.methodLink RA 13 yC_twelfth : Cond) ∈ lw_tbl := List.mem_append_right _ (List.mem_of_getElem? (i := 347) rfl)
set_option maxRecDepth 20000 in
theorem gt_329 : (.static yC_twelfth : Cond) ∈ lw_tbl := List.mem_append_right _ (List.mem_of_getElem? (i := 348) rfl)
set_option maxRecDepth 20000 in
theorem gt_330 : (.code yC_twelfth cC_twelfth 1 (some .int) : Cond) ∈ lw_tbl := List.mem_append_right _ (List.mem_of_getElem? (i := 349) rfl)
set_option maxRecDepth 20000 in
theorem gt_331 : (.methodLink RL 86 yL_advance : Cond) ∈ lw_tbl := List.mem_append_right _ (List.mem_of_getElem? (i := 350) rfl)
set_option maxRecDepth 20000 in
theorem gt_332 : (.static yL_advance : Cond) ∈ lw_tbl := List.mem_append_right _ (List.mem_of_getElem? (i := 351) rfl)
set_option maxRecDepth 20000 in
theorem gt_333 : (.codeWith yL_advance cL_advance 4 (some .int) [(0, 9, 12, 13), (0, 9, 15, 15)] : Cond) ∈ lw_tbl := List.mem_append_right _ (List.mem_of_getElem? (i := 352) rfl)
set_option maxRecDepth 20000 in
theorem gt_334 : (.methodLink RL 23 yD_advance : Cond) ∈ lw_tbl := List.mem_append_right _ (List.mem_of_getElem? (i := 353) rfl)
set_option maxRecDepth 20000 in
theorem gt_335 : (.instanceMethod yD_advance : Cond) ∈ lw_tbl := List.mem_append_right _ (List.mem_of_getElem? (i := 354) rfl)
set_option maxRecDepth 20000 in
theorem gt_336 : (.selects RD yD_advance yD_advance : Cond) ∈ lw_tbl := List.mem_append_right _ (List.mem_of_getElem? (i := 355) rfl)
set_option maxRecDepth 20000 in
theorem gt_337 : (.code yD_advance cD_advance 5 (some .int) : Cond) ∈ lw_tbl := List.mem_append_right _ (List.mem_of_getElem? (i := 356) rfl)
set_option maxRecDepth 20000 in
theorem gt_338 : (.methodLink RD 59 yN_beginDay : Cond) ∈ lw_tbl := List.mem_append_right _ (List.mem_of_getElem? (i := 357) rfl)
set_option maxRecDepth 20000 in
theorem gt_339 : (.instanceMethod yN_beginDay : Cond) ∈ lw_tbl := List.mem_append_right _ (List.mem_of_getElem? (i := 358) rfl)
set_option maxRecDepth 20000 in
theorem gt_340 : (.selects RN yN_beginDay yN_beginDay : Cond) ∈ lw_tbl := List.mem_append_right _ (List.mem_of_getElem? (i := 359) rfl)
set_option maxRecDepth 20000 in
theorem gt_341 : (.code yN_beginDay cN_beginDay 2 (some .boolean) : Cond) ∈ lw_tbl := List.mem_append_right _ (List.mem_of_getElem? (i := 360) rfl)
set_option maxRecDepth 20000 in
theorem gt_342 : (.methodLink RN 82 yB_latestIsOf : Cond) ∈ lw_tbl := List.mem_append_right _ (List.mem_of_getElem? (i := 361) rfl)
set_option maxRecDepth 20000 in
theorem gt_343 : (.instanceMethod yB_latestIsOf : Cond) ∈ lw_tbl := List.mem_append_right _ (List.mem_of_getElem? (i := 362) rfl)
set_option maxRecDepth 20000 in
theorem gt_344 : (.selects RB yB_latestIsOf yB_latestIsOf : Cond) ∈ lw_tbl := List.mem_append_right _ (List.mem_of_getElem? (i := 363) rfl)
set_option maxRecDepth 20000 in
theorem gt_345 : (.code yB_latestIsOf cB_latestIsOf 2 (some .boolean) : Cond) ∈ lw_tbl := List.mem_append_right _ (List.mem_of_getElem? (i := 364) rfl)
set_option maxRecDepth 20000 in
theorem gt_346 : (.methodLink RN 86 yN_addLateFee : Cond) ∈ lw_tbl := List.mem_append_right _ (List.mem_of_getElem? (i := 365) rfl)
set_option maxRecDepth 20000 in
theorem gt_347 : (.instanceMethod yN_addLateFee : Cond) ∈ lw_tbl := List.mem_append_right _ (List.mem_of_getElem? (i := 367) rfl)
set_option maxRecDepth 20000 in
theorem gt_348 : (.code yN_addLateFee cN_addLateFee 3 none : Cond) ∈ lw_tbl := List.mem_append_right _ (List.mem_of_getElem? (i := 368) rfl)
set_option maxRecDepth 20000 in
theorem gt_349 : (.constantLong RN 102 (20) : Cond) ∈ lw_tbl := List.mem_append_right _ (List.mem_of_getElem? (i := 369) rfl)
set_option maxRecDepth 20000 in
theorem gt_350 : (.methodLink RN 104 yC_rounded : Cond) ∈ lw_tbl := List.mem_append_right _ (List.mem_of_getElem? (i := 370) rfl)
set_option maxRecDepth 20000 in
theorem gt_351 : (.methodLink RN 92 yA_payCharge : Cond) ∈ lw_tbl := List.mem_append_right _ (List.mem_of_getElem? (i := 371) rfl)
set_option maxRecDepth 20000 in
theorem gt_352 : (.instanceMethod yA_payCharge : Cond) ∈ lw_tbl := List.mem_append_right _ (List.mem_of_getElem? (i := 372) rfl)
set_option maxRecDepth 20000 in
theorem gt_353 : (.selects RA yA_payCharge yA_payCharge : Cond) ∈ lw_tbl := List.mem_append_right _ (List.mem_of_getElem? (i := 373) rfl)
set_option maxRecDepth 20000 in
theorem gt_354 : (.code yA_payCharge cA_payCharge 1 none : Cond) ∈ lw_tbl := List.mem_append_right _ (List.mem_of_getElem? (i := 374) rfl)
set_option maxRecDepth 20000 in
theorem gt_355 : (.methodLink RA 25 Lib.Math.max.name : Cond) ∈ lw_tbl := List.mem_append_right _ (List.mem_of_getElem? (i := 375) rfl)
set_option maxRecDepth 20000 in
theorem gt_356 : (.static Lib.Math.max.name : Cond) ∈ lw_tbl := List.mem_append_right _ (List.mem_of_getElem? (i := 376) rfl)
set_option maxRecDepth 20000 in
theorem gt_357 : (.code Lib.Math.max.name Lib.Math.max.code 2 (some .int) : Cond) ∈ lw_tbl := List.mem_append_right _ (List.mem_of_getElem? (i := 377) rfl)
set_option maxRecDepth 20000 in
theorem gt_358 : (.methodLink RN 95 yN_accrue : Cond) ∈ lw_tbl := List.mem_append_right _ (List.mem_of_getElem? (i := 378) rfl)
set_option maxRecDepth 20000 in
theorem gt_359 : (.instanceMethod yN_accrue : Cond) ∈ lw_tbl := List.mem_append_right _ (List.mem_of_getElem? (i := 380) rfl)
theorem gtc_8 : ∀ w ∈ GW_8, w ∈ lw_tbl := List.forall_mem_cons.mpr ⟨gt_320, List.forall_mem_cons.mpr ⟨gt_321, List.forall_mem_cons.mpr ⟨gt_322, List.forall_mem_cons.mpr ⟨gt_323, List.forall_mem_cons.mpr ⟨gt_324, List.forall_mem_cons.mpr ⟨gt_325, List.forall_mem_cons.mpr ⟨gt_326, List.forall_mem_cons.mpr ⟨gt_327, List.forall_mem_cons.mpr ⟨gt_328, List.forall_mem_cons.mpr ⟨gt_329, List.forall_mem_cons.mpr ⟨gt_330, List.forall_mem_cons.mpr ⟨gt_331, List.forall_mem_cons.mpr ⟨gt_332, List.forall_mem_cons.mpr ⟨gt_333, List.forall_mem_cons.mpr ⟨gt_334, List.forall_mem_cons.mpr ⟨gt_335, List.forall_mem_cons.mpr ⟨gt_336, List.forall_mem_cons.mpr ⟨gt_337, List.forall_mem_cons.mpr ⟨gt_338, List.forall_mem_cons.mpr ⟨gt_339, List.forall_mem_cons.mpr ⟨gt_340, List.forall_mem_cons.mpr ⟨gt_341, List.forall_mem_cons.mpr ⟨gt_342, List.forall_mem_cons.mpr ⟨gt_343, List.forall_mem_cons.mpr ⟨gt_344, List.forall_mem_cons.mpr ⟨gt_345, List.forall_mem_cons.mpr ⟨gt_346, List.forall_mem_cons.mpr ⟨gt_347, List.forall_mem_cons.mpr ⟨gt_348, List.forall_mem_cons.mpr ⟨gt_349, List.forall_mem_cons.mpr ⟨gt_350, List.forall_mem_cons.mpr ⟨gt_351, List.forall_mem_cons.mpr ⟨gt_352, List.forall_mem_cons.mpr ⟨gt_353, List.forall_mem_cons.mpr ⟨gt_354, List.forall_mem_cons.mpr ⟨gt_355, List.forall_mem_cons.mpr ⟨gt_356, List.forall_mem_cons.mpr ⟨gt_357, List.forall_mem_cons.mpr ⟨gt_358, List.forall_mem_cons.mpr ⟨gt_359, fun _ h => absurd h List.not_mem_nil⟩⟩⟩⟩⟩⟩⟩⟩⟩⟩⟩⟩⟩⟩⟩⟩⟩⟩⟩⟩⟩⟩⟩⟩⟩⟩⟩⟩⟩⟩⟩⟩⟩⟩⟩⟩⟩⟩⟩⟩
set_option maxRecDepth 20000 in
theorem gt_360 : (.code yN_accrue cN_accrue 2 none : Cond) ∈ lw_tbl := List.mem_append_right _ (List.mem_of_getElem? (i := 381) rfl)
set_option maxRecDepth 20000 in
theorem gt_361 : (.methodLink RN 79 yN_accruedBy : Cond) ∈ lw_tbl := List.mem_append_right _ (List.mem_of_getElem? (i := 382) rfl)
set_option maxRecDepth 20000 in
theorem gt_362 : (.instanceMethod yN_accruedBy : Cond) ∈ lw_tbl := List.mem_append_right _ (List.mem_of_getElem? (i := 383) rfl)
set_option maxRecDepth 20000 in
theorem gt_363 : (.selects RN yN_accruedBy yN_accruedBy : Cond) ∈ lw_tbl := List.mem_append_right _ (List.mem_of_getElem? (i := 384) rfl)
set_option maxRecDepth 20000 in
theorem gt_364 : (.code yN_accruedBy cN_accruedBy 3 (some .int) : Cond) ∈ lw_tbl := List.mem_append_right _ (List.mem_of_getElem? (i := 385) rfl)
set_option maxRecDepth 20000 in
theorem gt_365 : (.methodLink RN 99 yN_makeBill : Cond) ∈ lw_tbl := List.mem_append_right _ (List.mem_of_getElem? (i := 386) rfl)
set_option maxRecDepth 20000 in
theorem gt_366 : (.instanceMethod yN_makeBill : Cond) ∈ lw_tbl := List.mem_append_right _ (List.mem_of_getElem? (i := 388) rfl)
set_option maxRecDepth 20000 in
theorem gt_367 : (.code yN_makeBill cN_makeBill 5 none : Cond) ∈ lw_tbl := List.mem_append_right _ (List.mem_of_getElem? (i := 389) rfl)
set_option maxRecDepth 20000 in
theorem gt_368 : (.methodLink RN 108 yN_partToBill : Cond) ∈ lw_tbl := List.mem_append_right _ (List.mem_of_getElem? (i := 390) rfl)
set_option maxRecDepth 20000 in
theorem gt_369 : (.instanceMethod yN_partToBill : Cond) ∈ lw_tbl := List.mem_append_right _ (List.mem_of_getElem? (i := 392) rfl)
set_option maxRecDepth 20000 in
theorem gt_370 : (.code yN_partToBill cN_partToBill 3 (some .int) : Cond) ∈ lw_tbl := List.mem_append_right _ (List.mem_of_getElem? (i := 393) rfl)
set_option maxRecDepth 20000 in
theorem gt_371 : (.methodLink RN 124 Lib.Math.max.name : Cond) ∈ lw_tbl := List.mem_append_right _ (List.mem_of_getElem? (i := 394) rfl)
set_option maxRecDepth 20000 in
theorem gt_372 : (.methodLink RN 114 yB_add : Cond) ∈ lw_tbl := List.mem_append_right _ (List.mem_of_getElem? (i := 395) rfl)
set_option maxRecDepth 20000 in
theorem gt_373 : (.instanceMethod yB_add : Cond) ∈ lw_tbl := List.mem_append_right _ (List.mem_of_getElem? (i := 396) rfl)
set_option maxRecDepth 20000 in
theorem gt_374 : (.selects RB yB_add yB_add : Cond) ∈ lw_tbl := List.mem_append_right _ (List.mem_of_getElem? (i := 397) rfl)
set_option maxRecDepth 20000 in
theorem gt_375 : (.code yB_add cB_add 7 none : Cond) ∈ lw_tbl := List.mem_append_right _ (List.mem_of_getElem? (i := 398) rfl)
set_option maxRecDepth 20000 in
theorem gt_376 : (.methodLink RL 90 yL_pay : Cond) ∈ lw_tbl := List.mem_append_right _ (List.mem_of_getElem? (i := 399) rfl)
set_option maxRecDepth 20000 in
theorem gt_377 : (.static yL_pay : Cond) ∈ lw_tbl := List.mem_append_right _ (List.mem_of_getElem? (i := 400) rfl)
set_option maxRecDepth 20000 in
theorem gt_378 : (.codeWith yL_pay cL_pay 5 (some .int) [(0, 10, 13, 21), (0, 10, 17, 13)] : Cond) ∈ lw_tbl := List.mem_append_right _ (List.mem_of_getElem? (i := 401) rfl)
set_option maxRecDepth 20000 in
theorem gt_379 : (.methodLink RL 27 yD_pay : Cond) ∈ lw_tbl := List.mem_append_right _ (List.mem_of_getElem? (i := 402) rfl)
set_option maxRecDepth 20000 in
theorem gt_380 : (.instanceMethod yD_pay : Cond) ∈ lw_tbl := List.mem_append_right _ (List.mem_of_getElem? (i := 403) rfl)
set_option maxRecDepth 20000 in
theorem gt_381 : (.selects RD yD_pay yD_pay : Cond) ∈ lw_tbl := List.mem_append_right _ (List.mem_of_getElem? (i := 404) rfl)
set_option maxRecDepth 20000 in
theorem gt_382 : (.code yD_pay cD_pay 4 (some .int) : Cond) ∈ lw_tbl := List.mem_append_right _ (List.mem_of_getElem? (i := 405) rfl)
set_option maxRecDepth 20000 in
theorem gt_383 : (.constant RD 63 (200000000) : Cond) ∈ lw_tbl := List.mem_append_right _ (List.mem_of_getElem? (i := 406) rfl)
set_option maxRecDepth 20000 in
theorem gt_384 : (.methodLink RD 64 yN_takePayment : Cond) ∈ lw_tbl := List.mem_append_right _ (List.mem_of_getElem? (i := 407) rfl)
set_option maxRecDepth 20000 in
theorem gt_385 : (.instanceMethod yN_takePayment : Cond) ∈ lw_tbl := List.mem_append_right _ (List.mem_of_getElem? (i := 408) rfl)
set_option maxRecDepth 20000 in
theorem gt_386 : (.selects RN yN_takePayment yN_takePayment : Cond) ∈ lw_tbl := List.mem_append_right _ (List.mem_of_getElem? (i := 409) rfl)
set_option maxRecDepth 20000 in
theorem gt_387 : (.code yN_takePayment cN_takePayment 5 (some .int) : Cond) ∈ lw_tbl := List.mem_append_right _ (List.mem_of_getElem? (i := 410) rfl)
set_option maxRecDepth 20000 in
theorem gt_388 : (.methodLink RN 133 yN_splitPayment : Cond) ∈ lw_tbl := List.mem_append_right _ (List.mem_of_getElem? (i := 411) rfl)
set_option maxRecDepth 20000 in
theorem gt_389 : (.instanceMethod yN_splitPayment : Cond) ∈ lw_tbl := List.mem_append_right _ (List.mem_of_getElem? (i := 413) rfl)
set_option maxRecDepth 20000 in
theorem gt_390 : (.code yN_splitPayment cN_splitPayment 4 none : Cond) ∈ lw_tbl := List.mem_append_right _ (List.mem_of_getElem? (i := 414) rfl)
set_option maxRecDepth 20000 in
theorem gt_391 : (.methodLink RN 146 yN_reckonLevel : Cond) ∈ lw_tbl := List.mem_append_right _ (List.mem_of_getElem? (i := 415) rfl)
set_option maxRecDepth 20000 in
theorem gt_392 : (.methodLink RL 94 yL_part : Cond) ∈ lw_tbl := List.mem_append_right _ (List.mem_of_getElem? (i := 416) rfl)
set_option maxRecDepth 20000 in
theorem gt_393 : (.static yL_part : Cond) ∈ lw_tbl := List.mem_append_right _ (List.mem_of_getElem? (i := 417) rfl)
set_option maxRecDepth 20000 in
theorem gt_394 : (.codeWith yL_part cL_part 5 (some .int) [(0, 10, 13, 21), (0, 10, 17, 13), (0, 10, 21, 15)] : Cond) ∈ lw_tbl := List.mem_append_right _ (List.mem_of_getElem? (i := 418) rfl)
set_option maxRecDepth 20000 in
theorem gt_395 : (.methodLink RL 31 yD_part : Cond) ∈ lw_tbl := List.mem_append_right _ (List.mem_of_getElem? (i := 419) rfl)
set_option maxRecDepth 20000 in
theorem gt_396 : (.instanceMethod yD_part : Cond) ∈ lw_tbl := List.mem_append_right _ (List.mem_of_getElem? (i := 420) rfl)
set_option maxRecDepth 20000 in
theorem gt_397 : (.selects RD yD_part yD_part : Cond) ∈ lw_tbl := List.mem_append_right _ (List.mem_of_getElem? (i := 421) rfl)
set_option maxRecDepth 20000 in
theorem gt_398 : (.code yD_part cD_part 4 (some .int) : Cond) ∈ lw_tbl := List.mem_append_right _ (List.mem_of_getElem? (i := 422) rfl)
set_option maxRecDepth 20000 in
theorem gt_399 : (.methodLink RL 101 yL_due : Cond) ∈ lw_tbl := List.mem_append_right _ (List.mem_of_getElem? (i := 423) rfl)
theorem gtc_9 : ∀ w ∈ GW_9, w ∈ lw_tbl := List.forall_mem_cons.mpr ⟨gt_360, List.forall_mem_cons.mpr ⟨gt_361, List.forall_mem_cons.mpr ⟨gt_362, List.forall_mem_cons.mpr ⟨gt_363, List.forall_mem_cons.mpr ⟨gt_364, List.forall_mem_cons.mpr ⟨gt_365, List.forall_mem_cons.mpr ⟨gt_366, List.forall_mem_cons.mpr ⟨gt_367, List.forall_mem_cons.mpr ⟨gt_368, List.forall_mem_cons.mpr ⟨gt_369, List.forall_mem_cons.mpr ⟨gt_370, List.forall_mem_cons.mpr ⟨gt_371, List.forall_mem_cons.mpr ⟨gt_372, List.forall_mem_cons.mpr ⟨gt_373, List.forall_mem_cons.mpr ⟨gt_374, List.forall_mem_cons.mpr ⟨gt_375, List.forall_mem_cons.mpr ⟨gt_376, List.forall_mem_cons.mpr ⟨gt_377, List.forall_mem_cons.mpr ⟨gt_378, List.forall_mem_cons.mpr ⟨gt_379, List.forall_mem_cons.mpr ⟨gt_380, List.forall_mem_cons.mpr ⟨gt_381, List.forall_mem_cons.mpr ⟨gt_382, List.forall_mem_cons.mpr ⟨gt_383, List.forall_mem_cons.mpr ⟨gt_384, List.forall_mem_cons.mpr ⟨gt_385, List.forall_mem_cons.mpr ⟨gt_386, List.forall_mem_cons.mpr ⟨gt_387, List.forall_mem_cons.mpr ⟨gt_388, List.forall_mem_cons.mpr ⟨gt_389, List.forall_mem_cons.mpr ⟨gt_390, List.forall_mem_cons.mpr ⟨gt_391, List.forall_mem_cons.mpr ⟨gt_392, List.forall_mem_cons.mpr ⟨gt_393, List.forall_mem_cons.mpr ⟨gt_394, List.forall_mem_cons.mpr ⟨gt_395, List.forall_mem_cons.mpr ⟨gt_396, List.forall_mem_cons.mpr ⟨gt_397, List.forall_mem_cons.mpr ⟨gt_398, List.forall_mem_cons.mpr ⟨gt_399, fun _ h => absurd h List.not_mem_nil⟩⟩⟩⟩⟩⟩⟩⟩⟩⟩⟩⟩⟩⟩⟩⟩⟩⟩⟩⟩⟩⟩⟩⟩⟩⟩⟩⟩⟩⟩⟩⟩⟩⟩⟩⟩⟩⟩⟩⟩
set_option maxRecDepth 20000 in
theorem gt_400 : (.static yL_due : Cond) ∈ lw_tbl := List.mem_append_right _ (List.mem_of_getElem? (i := 424) rfl)
set_option maxRecDepth 20000 in
theorem gt_401 : (.codeWith yL_due cL_due 5 (some .int) [(0, 10, 13, 21), (0, 10, 17, 13)] : Cond) ∈ lw_tbl := List.mem_append_right _ (List.mem_of_getElem? (i := 425) rfl)
set_option maxRecDepth 20000 in
theorem gt_402 : (.methodLink RL 34 yD_due : Cond) ∈ lw_tbl := List.mem_append_right _ (List.mem_of_getElem? (i := 426) rfl)
set_option maxRecDepth 20000 in
theorem gt_403 : (.instanceMethod yD_due : Cond) ∈ lw_tbl := List.mem_append_right _ (List.mem_of_getElem? (i := 427) rfl)
set_option maxRecDepth 20000 in
theorem gt_404 : (.selects RD yD_due yD_due : Cond) ∈ lw_tbl := List.mem_append_right _ (List.mem_of_getElem? (i := 428) rfl)
set_option maxRecDepth 20000 in
theorem gt_405 : (.code yD_due cD_due 4 (some .int) : Cond) ∈ lw_tbl := List.mem_append_right _ (List.mem_of_getElem? (i := 429) rfl)
set_option maxRecDepth 20000 in
theorem gt_406 : (.methodLink RD 89 yT_dueDay : Cond) ∈ lw_tbl := List.mem_append_right _ (List.mem_of_getElem? (i := 430) rfl)
set_option maxRecDepth 20000 in
theorem gt_407 : (.methodLink RL 104 yL_principal : Cond) ∈ lw_tbl := List.mem_append_right _ (List.mem_of_getElem? (i := 431) rfl)
set_option maxRecDepth 20000 in
theorem gt_408 : (.static yL_principal : Cond) ∈ lw_tbl := List.mem_append_right _ (List.mem_of_getElem? (i := 432) rfl)
set_option maxRecDepth 20000 in
theorem gt_409 : (.codeWith yL_principal cL_principal 4 (some .int) [(0, 9, 12, 21)] : Cond) ∈ lw_tbl := List.mem_append_right _ (List.mem_of_getElem? (i := 433) rfl)
set_option maxRecDepth 20000 in
theorem gt_410 : (.methodLink RL 37 yD_principal : Cond) ∈ lw_tbl := List.mem_append_right _ (List.mem_of_getElem? (i := 434) rfl)
set_option maxRecDepth 20000 in
theorem gt_411 : (.instanceMethod yD_principal : Cond) ∈ lw_tbl := List.mem_append_right _ (List.mem_of_getElem? (i := 435) rfl)
set_option maxRecDepth 20000 in
theorem gt_412 : (.selects RD yD_principal yD_principal : Cond) ∈ lw_tbl := List.mem_append_right _ (List.mem_of_getElem? (i := 436) rfl)
set_option maxRecDepth 20000 in
theorem gt_413 : (.code yD_principal cD_principal 2 (some .int) : Cond) ∈ lw_tbl := List.mem_append_right _ (List.mem_of_getElem? (i := 437) rfl)
set_option maxRecDepth 20000 in
theorem gt_414 : (.methodLink RL 107 yL_level : Cond) ∈ lw_tbl := List.mem_append_right _ (List.mem_of_getElem? (i := 438) rfl)
set_option maxRecDepth 20000 in
theorem gt_415 : (.static yL_level : Cond) ∈ lw_tbl := List.mem_append_right _ (List.mem_of_getElem? (i := 439) rfl)
set_option maxRecDepth 20000 in
theorem gt_416 : (.codeWith yL_level cL_level 4 (some .int) [(0, 9, 12, 21)] : Cond) ∈ lw_tbl := List.mem_append_right _ (List.mem_of_getElem? (i := 440) rfl)
set_option maxRecDepth 20000 in
theorem gt_417 : (.methodLink RL 40 yD_level : Cond) ∈ lw_tbl := List.mem_append_right _ (List.mem_of_getElem? (i := 441) rfl)
set_option maxRecDepth 20000 in
theorem gt_418 : (.instanceMethod yD_level : Cond) ∈ lw_tbl := List.mem_append_right _ (List.mem_of_getElem? (i := 442) rfl)
set_option maxRecDepth 20000 in
theorem gt_419 : (.selects RD yD_level yD_level : Cond) ∈ lw_tbl := List.mem_append_right _ (List.mem_of_getElem? (i := 443) rfl)
set_option maxRecDepth 20000 in
theorem gt_420 : (.code yD_level cD_level 2 (some .int) : Cond) ∈ lw_tbl := List.mem_append_right _ (List.mem_of_getElem? (i := 444) rfl)
set_option maxRecDepth 20000 in
theorem gt_421 : (.methodLink RL 110 yL_accrued : Cond) ∈ lw_tbl := List.mem_append_right _ (List.mem_of_getElem? (i := 445) rfl)
set_option maxRecDepth 20000 in
theorem gt_422 : (.static yL_accrued : Cond) ∈ lw_tbl := List.mem_append_right _ (List.mem_of_getElem? (i := 446) rfl)
set_option maxRecDepth 20000 in
theorem gt_423 : (.codeWith yL_accrued cL_accrued 4 (some .int) [(0, 9, 12, 21)] : Cond) ∈ lw_tbl := List.mem_append_right _ (List.mem_of_getElem? (i := 447) rfl)
set_option maxRecDepth 20000 in
theorem gt_424 : (.methodLink RL 43 yD_accrued : Cond) ∈ lw_tbl := List.mem_append_right _ (List.mem_of_getElem? (i := 448) rfl)
set_option maxRecDepth 20000 in
theorem gt_425 : (.instanceMethod yD_accrued : Cond) ∈ lw_tbl := List.mem_append_right _ (List.mem_of_getElem? (i := 449) rfl)
set_option maxRecDepth 20000 in
theorem gt_426 : (.selects RD yD_accrued yD_accrued : Cond) ∈ lw_tbl := List.mem_append_right _ (List.mem_of_getElem? (i := 450) rfl)
set_option maxRecDepth 20000 in
theorem gt_427 : (.code yD_accrued cD_accrued 2 (some .int) : Cond) ∈ lw_tbl := List.mem_append_right _ (List.mem_of_getElem? (i := 451) rfl)
set_option maxRecDepth 20000 in
theorem gt_428 : (.methodLink RD 98 yN_accruedBy : Cond) ∈ lw_tbl := List.mem_append_right _ (List.mem_of_getElem? (i := 452) rfl)
set_option maxRecDepth 20000 in
theorem gt_429 : (.methodLink RL 113 yL_owed : Cond) ∈ lw_tbl := List.mem_append_right _ (List.mem_of_getElem? (i := 453) rfl)
set_option maxRecDepth 20000 in
theorem gt_430 : (.static yL_owed : Cond) ∈ lw_tbl := List.mem_append_right _ (List.mem_of_getElem? (i := 454) rfl)
set_option maxRecDepth 20000 in
theorem gt_431 : (.codeWith yL_owed cL_owed 5 (some .int) [(0, 10, 13, 21), (0, 10, 17, 13)] : Cond) ∈ lw_tbl := List.mem_append_right _ (List.mem_of_getElem? (i := 455) rfl)
set_option maxRecDepth 20000 in
theorem gt_432 : (.methodLink RL 46 yD_owed : Cond) ∈ lw_tbl := List.mem_append_right _ (List.mem_of_getElem? (i := 456) rfl)
set_option maxRecDepth 20000 in
theorem gt_433 : (.instanceMethod yD_owed : Cond) ∈ lw_tbl := List.mem_append_right _ (List.mem_of_getElem? (i := 457) rfl)
set_option maxRecDepth 20000 in
theorem gt_434 : (.selects RD yD_owed yD_owed : Cond) ∈ lw_tbl := List.mem_append_right _ (List.mem_of_getElem? (i := 458) rfl)
set_option maxRecDepth 20000 in
theorem gt_435 : (.code yD_owed cD_owed 4 (some .int) : Cond) ∈ lw_tbl := List.mem_append_right _ (List.mem_of_getElem? (i := 459) rfl)
set_option maxRecDepth 20000 in
theorem gt_436 : (.methodLink RL 116 yL_escrow : Cond) ∈ lw_tbl := List.mem_append_right _ (List.mem_of_getElem? (i := 460) rfl)
set_option maxRecDepth 20000 in
theorem gt_437 : (.static yL_escrow : Cond) ∈ lw_tbl := List.mem_append_right _ (List.mem_of_getElem? (i := 461) rfl)
set_option maxRecDepth 20000 in
theorem gt_438 : (.codeWith yL_escrow cL_escrow 4 (some .int) [(0, 9, 12, 21)] : Cond) ∈ lw_tbl := List.mem_append_right _ (List.mem_of_getElem? (i := 462) rfl)
set_option maxRecDepth 20000 in
theorem gt_439 : (.methodLink RL 49 yD_escrow : Cond) ∈ lw_tbl := List.mem_append_right _ (List.mem_of_getElem? (i := 463) rfl)
theorem gtc_10 : ∀ w ∈ GW_10, w ∈ lw_tbl := List.forall_mem_cons.mpr ⟨gt_400, List.forall_mem_cons.mpr ⟨gt_401, List.forall_mem_cons.mpr ⟨gt_402, List.forall_mem_cons.mpr ⟨gt_403, List.forall_mem_cons.mpr ⟨gt_404, List.forall_mem_cons.mpr ⟨gt_405, List.forall_mem_cons.mpr ⟨gt_406, List.forall_mem_cons.mpr ⟨gt_407, List.forall_mem_cons.mpr ⟨gt_408, List.forall_mem_cons.mpr ⟨gt_409, List.forall_mem_cons.mpr ⟨gt_410, List.forall_mem_cons.mpr ⟨gt_411, List.forall_mem_cons.mpr ⟨gt_412, List.forall_mem_cons.mpr ⟨gt_413, List.forall_mem_cons.mpr ⟨gt_414, List.forall_mem_cons.mpr ⟨gt_415, List.forall_mem_cons.mpr ⟨gt_416, List.forall_mem_cons.mpr ⟨gt_417, List.forall_mem_cons.mpr ⟨gt_418, List.forall_mem_cons.mpr ⟨gt_419, List.forall_mem_cons.mpr ⟨gt_420, List.forall_mem_cons.mpr ⟨gt_421, List.forall_mem_cons.mpr ⟨gt_422, List.forall_mem_cons.mpr ⟨gt_423, List.forall_mem_cons.mpr ⟨gt_424, List.forall_mem_cons.mpr ⟨gt_425, List.forall_mem_cons.mpr ⟨gt_426, List.forall_mem_cons.mpr ⟨gt_427, List.forall_mem_cons.mpr ⟨gt_428, List.forall_mem_cons.mpr ⟨gt_429, List.forall_mem_cons.mpr ⟨gt_430, List.forall_mem_cons.mpr ⟨gt_431, List.forall_mem_cons.mpr ⟨gt_432, List.forall_mem_cons.mpr ⟨gt_433, List.forall_mem_cons.mpr ⟨gt_434, List.forall_mem_cons.mpr ⟨gt_435, List.forall_mem_cons.mpr ⟨gt_436, List.forall_mem_cons.mpr ⟨gt_437, List.forall_mem_cons.mpr ⟨gt_438, List.forall_mem_cons.mpr ⟨gt_439, fun _ h => absurd h List.not_mem_nil⟩⟩⟩⟩⟩⟩⟩⟩⟩⟩⟩⟩⟩⟩⟩⟩⟩⟩⟩⟩⟩⟩⟩⟩⟩⟩⟩⟩⟩⟩⟩⟩⟩⟩⟩⟩⟩⟩⟩⟩
set_option maxRecDepth 20000 in
theorem gt_440 : (.instanceMethod yD_escrow : Cond) ∈ lw_tbl := List.mem_append_right _ (List.mem_of_getElem? (i := 464) rfl)
set_option maxRecDepth 20000 in
theorem gt_441 : (.selects RD yD_escrow yD_escrow : Cond) ∈ lw_tbl := List.mem_append_right _ (List.mem_of_getElem? (i := 465) rfl)
set_option maxRecDepth 20000 in
theorem gt_442 : (.code yD_escrow cD_escrow 2 (some .int) : Cond) ∈ lw_tbl := List.mem_append_right _ (List.mem_of_getElem? (i := 466) rfl)
set_option maxRecDepth 20000 in
theorem gt_443 : (.methodLink RL 119 yL_deposit : Cond) ∈ lw_tbl := List.mem_append_right _ (List.mem_of_getElem? (i := 467) rfl)
set_option maxRecDepth 20000 in
theorem gt_444 : (.static yL_deposit : Cond) ∈ lw_tbl := List.mem_append_right _ (List.mem_of_getElem? (i := 468) rfl)
set_option maxRecDepth 20000 in
theorem gt_445 : (.codeWith yL_deposit cL_deposit 4 (some .int) [(0, 9, 12, 21)] : Cond) ∈ lw_tbl := List.mem_append_right _ (List.mem_of_getElem? (i := 469) rfl)
set_option maxRecDepth 20000 in
theorem gt_446 : (.methodLink RL 52 yD_deposit : Cond) ∈ lw_tbl := List.mem_append_right _ (List.mem_of_getElem? (i := 470) rfl)
set_option maxRecDepth 20000 in
theorem gt_447 : (.instanceMethod yD_deposit : Cond) ∈ lw_tbl := List.mem_append_right _ (List.mem_of_getElem? (i := 471) rfl)
set_option maxRecDepth 20000 in
theorem gt_448 : (.selects RD yD_deposit yD_deposit : Cond) ∈ lw_tbl := List.mem_append_right _ (List.mem_of_getElem? (i := 472) rfl)
set_option maxRecDepth 20000 in
theorem gt_449 : (.code yD_deposit cD_deposit 2 (some .int) : Cond) ∈ lw_tbl := List.mem_append_right _ (List.mem_of_getElem? (i := 473) rfl)
set_option maxRecDepth 20000 in
theorem gt_450 : (.methodLink RL 122 yL_bills : Cond) ∈ lw_tbl := List.mem_append_right _ (List.mem_of_getElem? (i := 474) rfl)
set_option maxRecDepth 20000 in
theorem gt_451 : (.static yL_bills : Cond) ∈ lw_tbl := List.mem_append_right _ (List.mem_of_getElem? (i := 475) rfl)
set_option maxRecDepth 20000 in
theorem gt_452 : (.codeWith yL_bills cL_bills 4 (some .int) [(0, 9, 12, 21)] : Cond) ∈ lw_tbl := List.mem_append_right _ (List.mem_of_getElem? (i := 476) rfl)
set_option maxRecDepth 20000 in
theorem gt_453 : (.methodLink RL 55 yD_bills : Cond) ∈ lw_tbl := List.mem_append_right _ (List.mem_of_getElem? (i := 477) rfl)
set_option maxRecDepth 20000 in
theorem gt_454 : (.instanceMethod yD_bills : Cond) ∈ lw_tbl := List.mem_append_right _ (List.mem_of_getElem? (i := 478) rfl)
set_option maxRecDepth 20000 in
theorem gt_455 : (.selects RD yD_bills yD_bills : Cond) ∈ lw_tbl := List.mem_append_right _ (List.mem_of_getElem? (i := 479) rfl)
set_option maxRecDepth 20000 in
theorem gt_456 : (.code yD_bills cD_bills 2 (some .int) : Cond) ∈ lw_tbl := List.mem_append_right _ (List.mem_of_getElem? (i := 480) rfl)
set_option maxRecDepth 20000 in
theorem gt_457 : (.methodLink RL 125 yL_bill : Cond) ∈ lw_tbl := List.mem_append_right _ (List.mem_of_getElem? (i := 481) rfl)
set_option maxRecDepth 20000 in
theorem gt_458 : (.static yL_bill : Cond) ∈ lw_tbl := List.mem_append_right _ (List.mem_of_getElem? (i := 482) rfl)
set_option maxRecDepth 20000 in
theorem gt_459 : (.codeWith yL_bill cL_bill 6 (some .int) [(0, 12, 15, 21), (0, 12, 19, 13), (0, 12, 23, 62)] : Cond) ∈ lw_tbl := List.mem_append_right _ (List.mem_of_getElem? (i := 483) rfl)
set_option maxRecDepth 20000 in
theorem gt_460 : (.classLink RL 62 "java/util/NoSuchElementException" : Cond) ∈ lw_tbl := List.mem_append_right _ (List.mem_of_getElem? (i := 484) rfl)
set_option maxRecDepth 20000 in
theorem gt_461 : (.methodLink RL 58 yD_bill : Cond) ∈ lw_tbl := List.mem_append_right _ (List.mem_of_getElem? (i := 485) rfl)
set_option maxRecDepth 20000 in
theorem gt_462 : (.instanceMethod yD_bill : Cond) ∈ lw_tbl := List.mem_append_right _ (List.mem_of_getElem? (i := 486) rfl)
set_option maxRecDepth 20000 in
theorem gt_463 : (.selects RD yD_bill yD_bill : Cond) ∈ lw_tbl := List.mem_append_right _ (List.mem_of_getElem? (i := 487) rfl)
set_option maxRecDepth 20000 in
theorem gt_464 : (.code yD_bill cD_bill 5 (some .int) : Cond) ∈ lw_tbl := List.mem_append_right _ (List.mem_of_getElem? (i := 488) rfl)
set_option maxRecDepth 20000 in
theorem gt_465 : (.classLink RD 119 "java/util/NoSuchElementException" : Cond) ∈ lw_tbl := List.mem_append_right _ (List.mem_of_getElem? (i := 489) rfl)
set_option maxRecDepth 20000 in
theorem gt_466 : (.instantiable "java/util/NoSuchElementException" 6 : Cond) ∈ lw_tbl := List.mem_append_right _ (List.mem_of_getElem? (i := 490) rfl)
set_option maxRecDepth 20000 in
theorem gt_467 : (.selects "java/util/NoSuchElementException" ⟨"java/lang/Throwable", "fillInStackTrace", "(I)Ljava/lang/Throwable;"⟩ ⟨"java/lang/Throwable", "fillInStackTrace", "(I)Ljava/lang/Throwable;"⟩ : Cond) ∈ lw_tbl := List.mem_append_right _ (List.mem_of_getElem? (i := 492) rfl)
set_option maxRecDepth 20000 in
theorem gt_468 : (.lays "java/util/NoSuchElementException" "java/lang/Throwable" "cause" "Ljava/lang/Throwable;" : Cond) ∈ lw_tbl := List.mem_append_right _ (List.mem_of_getElem? (i := 493) rfl)
set_option maxRecDepth 20000 in
theorem gt_469 : (.lays "java/util/NoSuchElementException" "java/lang/Throwable" "stackTrace" "[Ljava/lang/StackTraceElement;" : Cond) ∈ lw_tbl := List.mem_append_right _ (List.mem_of_getElem? (i := 494) rfl)
set_option maxRecDepth 20000 in
theorem gt_470 : (.lays "java/util/NoSuchElementException" "java/lang/Throwable" "suppressedExceptions" "Ljava/util/List;" : Cond) ∈ lw_tbl := List.mem_append_right _ (List.mem_of_getElem? (i := 495) rfl)
set_option maxRecDepth 20000 in
theorem gt_471 : (.lays "java/util/NoSuchElementException" "java/lang/Throwable" "detailMessage" "Ljava/lang/String;" : Cond) ∈ lw_tbl := List.mem_append_right _ (List.mem_of_getElem? (i := 496) rfl)
set_option maxRecDepth 20000 in
theorem gt_472 : (.lays "java/util/NoSuchElementException" "java/lang/Throwable" "backtrace" "Ljava/lang/Object;" : Cond) ∈ lw_tbl := List.mem_append_right _ (List.mem_of_getElem? (i := 497) rfl)
set_option maxRecDepth 20000 in
theorem gt_473 : (.methodLink RD 121 ⟨"java/util/NoSuchElementException", "<init>", "()V"⟩ : Cond) ∈ lw_tbl := List.mem_append_right _ (List.mem_of_getElem? (i := 498) rfl)
set_option maxRecDepth 20000 in
theorem gt_474 : (.instanceMethod ⟨"java/util/NoSuchElementException", "<init>", "()V"⟩ : Cond) ∈ lw_tbl := List.mem_append_right _ (List.mem_of_getElem? (i := 499) rfl)
set_option maxRecDepth 20000 in
theorem gt_475 : ((Jvm.Cond.code ({ cls := "java/util/NoSuchElementException", name := "<init>", desc := "()V" } : Jvm.MethodName) prog_18_method_1_code (1 : Nat) (Option.none : Option Jvm.ClassFile.FieldType)) : Cond) ∈ lw_tbl := List.mem_append_right _ (List.mem_of_getElem? (i := 500) rfl)
set_option maxRecDepth 20000 in
theorem gt_476 : (.methodLink "java/util/NoSuchElementException" 1 ⟨"java/lang/RuntimeException", "<init>", "()V"⟩ : Cond) ∈ lw_tbl := List.mem_append_right _ (List.mem_of_getElem? (i := 501) rfl)
set_option maxRecDepth 20000 in
theorem gt_477 : (.lays "java/util/NoSuchElementException" "java/lang/Throwable" "depth" "I" : Cond) ∈ lw_tbl := List.mem_append_right _ (List.mem_of_getElem? (i := 502) rfl)
set_option maxRecDepth 20000 in
theorem gt_478 : ((Jvm.Cond.superclass "java/util/NoSuchElementException" "java/lang/RuntimeException") : Cond) ∈ lw_tbl := List.mem_append_right _ (List.mem_of_getElem? (i := 503) rfl)
set_option maxRecDepth 20000 in
theorem gt_479 : (.methodLink RL 129 yL_interest : Cond) ∈ lw_tbl := List.mem_append_right _ (List.mem_of_getElem? (i := 504) rfl)
theorem gtc_11 : ∀ w ∈ GW_11, w ∈ lw_tbl := List.forall_mem_cons.mpr ⟨gt_440, List.forall_mem_cons.mpr ⟨gt_441, List.forall_mem_cons.mpr ⟨gt_442, List.forall_mem_cons.mpr ⟨gt_443, List.forall_mem_cons.mpr ⟨gt_444, List.forall_mem_cons.mpr ⟨gt_445, List.forall_mem_cons.mpr ⟨gt_446, List.forall_mem_cons.mpr ⟨gt_447, List.forall_mem_cons.mpr ⟨gt_448, List.forall_mem_cons.mpr ⟨gt_449, List.forall_mem_cons.mpr ⟨gt_450, List.forall_mem_cons.mpr ⟨gt_451, List.forall_mem_cons.mpr ⟨gt_452, List.forall_mem_cons.mpr ⟨gt_453, List.forall_mem_cons.mpr ⟨gt_454, List.forall_mem_cons.mpr ⟨gt_455, List.forall_mem_cons.mpr ⟨gt_456, List.forall_mem_cons.mpr ⟨gt_457, List.forall_mem_cons.mpr ⟨gt_458, List.forall_mem_cons.mpr ⟨gt_459, List.forall_mem_cons.mpr ⟨gt_460, List.forall_mem_cons.mpr ⟨gt_461, List.forall_mem_cons.mpr ⟨gt_462, List.forall_mem_cons.mpr ⟨gt_463, List.forall_mem_cons.mpr ⟨gt_464, List.forall_mem_cons.mpr ⟨gt_465, List.forall_mem_cons.mpr ⟨gt_466, List.forall_mem_cons.mpr ⟨gt_467, List.forall_mem_cons.mpr ⟨gt_468, List.forall_mem_cons.mpr ⟨gt_469, List.forall_mem_cons.mpr ⟨gt_470, List.forall_mem_cons.mpr ⟨gt_471, List.forall_mem_cons.mpr ⟨gt_472, List.forall_mem_cons.mpr ⟨gt_473, List.forall_mem_cons.mpr ⟨gt_474, List.forall_mem_cons.mpr ⟨gt_475, List.forall_mem_cons.mpr ⟨gt_476, List.forall_mem_cons.mpr ⟨gt_477, List.forall_mem_cons.mpr ⟨gt_478, List.forall_mem_cons.mpr ⟨gt_479, fun _ h => absurd h List.not_mem_nil⟩⟩⟩⟩⟩⟩⟩⟩⟩⟩⟩⟩⟩⟩⟩⟩⟩⟩⟩⟩⟩⟩⟩⟩⟩⟩⟩⟩⟩⟩⟩⟩⟩⟩⟩⟩⟩⟩⟩⟩
set_option maxRecDepth 20000 in
theorem gt_480 : (.static yL_interest : Cond) ∈ lw_tbl := List.mem_append_right _ (List.mem_of_getElem? (i := 505) rfl)
set_option maxRecDepth 20000 in
theorem gt_481 : (.codeWith yL_interest cL_interest 9 (some .int) [(0, 18, 21, 13)] : Cond) ∈ lw_tbl := List.mem_append_right _ (List.mem_of_getElem? (i := 506) rfl)
set_option maxRecDepth 20000 in
theorem gt_482 : (.methodLink RL 64 yD_interest : Cond) ∈ lw_tbl := List.mem_append_right _ (List.mem_of_getElem? (i := 507) rfl)
set_option maxRecDepth 20000 in
theorem gt_483 : (.instanceMethod yD_interest : Cond) ∈ lw_tbl := List.mem_append_right _ (List.mem_of_getElem? (i := 508) rfl)
set_option maxRecDepth 20000 in
theorem gt_484 : (.selects RD yD_interest yD_interest : Cond) ∈ lw_tbl := List.mem_append_right _ (List.mem_of_getElem? (i := 509) rfl)
set_option maxRecDepth 20000 in
theorem gt_485 : (.code yD_interest cD_interest 7 (some .int) : Cond) ∈ lw_tbl := List.mem_append_right _ (List.mem_of_getElem? (i := 510) rfl)
set_option maxRecDepth 20000 in
theorem gt_486 : (.methodLink RD 125 yS_top : Cond) ∈ lw_tbl := List.mem_append_right _ (List.mem_of_getElem? (i := 511) rfl)
set_option maxRecDepth 20000 in
theorem gt_487 : (.methodLink RD 131 yC_interestOn : Cond) ∈ lw_tbl := List.mem_append_right _ (List.mem_of_getElem? (i := 512) rfl)
set_option maxRecDepth 20000 in
theorem gt_488 : (.classLink RL 69 RM : Cond) ∈ lw_tbl := List.mem_append_right _ (List.mem_of_getElem? (i := 513) rfl)
set_option maxRecDepth 20000 in
theorem gt_489 : (.instantiable RM 28 : Cond) ∈ lw_tbl := List.mem_append_right _ (List.mem_of_getElem? (i := 514) rfl)
set_option maxRecDepth 20000 in
theorem gt_490 : (.methodLink RL 71 yM_init : Cond) ∈ lw_tbl := List.mem_append_right _ (List.mem_of_getElem? (i := 515) rfl)
set_option maxRecDepth 20000 in
theorem gt_491 : (.instanceMethod yM_init : Cond) ∈ lw_tbl := List.mem_append_right _ (List.mem_of_getElem? (i := 516) rfl)
set_option maxRecDepth 20000 in
theorem gt_492 : (.code yM_init cM_init 1 none : Cond) ∈ lw_tbl := List.mem_append_right _ (List.mem_of_getElem? (i := 517) rfl)
set_option maxRecDepth 20000 in
theorem gt_493 : (.methodLink RM 1 objectInit : Cond) ∈ lw_tbl := List.mem_append_right _ (List.mem_of_getElem? (i := 518) rfl)
set_option maxRecDepth 20000 in
theorem gt_494 : (.fieldLink RM 77 "LoanDeskModel" "code" "I" : Cond) ∈ lw_tbl := List.mem_append_right _ (List.mem_of_getElem? (i := 519) rfl)
set_option maxRecDepth 20000 in
theorem gt_495 : (.fieldLink RM 106 "LoanDeskModel" "today" "I" : Cond) ∈ lw_tbl := List.mem_append_right _ (List.mem_of_getElem? (i := 520) rfl)
set_option maxRecDepth 20000 in
theorem gt_496 : (.fieldLink RM 160 "LoanDeskModel" "loans" "I" : Cond) ∈ lw_tbl := List.mem_append_right _ (List.mem_of_getElem? (i := 521) rfl)
set_option maxRecDepth 20000 in
theorem gt_497 : (.fieldLink RM 7 "LoanDeskModel" "opened" "[I" : Cond) ∈ lw_tbl := List.mem_append_right _ (List.mem_of_getElem? (i := 522) rfl)
set_option maxRecDepth 20000 in
theorem gt_498 : (.fieldLink RM 13 "LoanDeskModel" "rate" "[I" : Cond) ∈ lw_tbl := List.mem_append_right _ (List.mem_of_getElem? (i := 523) rfl)
set_option maxRecDepth 20000 in
theorem gt_499 : (.fieldLink RM 16 "LoanDeskModel" "months" "[I" : Cond) ∈ lw_tbl := List.mem_append_right _ (List.mem_of_getElem? (i := 524) rfl)
set_option maxRecDepth 20000 in
theorem gt_500 : (.fieldLink RM 19 "LoanDeskModel" "rule" "[I" : Cond) ∈ lw_tbl := List.mem_append_right _ (List.mem_of_getElem? (i := 525) rfl)
set_option maxRecDepth 20000 in
theorem gt_501 : (.fieldLink RM 22 "LoanDeskModel" "rounding" "[I" : Cond) ∈ lw_tbl := List.mem_append_right _ (List.mem_of_getElem? (i := 526) rfl)
set_option maxRecDepth 20000 in
theorem gt_502 : (.fieldLink RM 25 "LoanDeskModel" "steady" "[Z" : Cond) ∈ lw_tbl := List.mem_append_right _ (List.mem_of_getElem? (i := 527) rfl)
set_option maxRecDepth 20000 in
theorem gt_503 : (.fieldLink RM 29 "LoanDeskModel" "principal" "[I" : Cond) ∈ lw_tbl := List.mem_append_right _ (List.mem_of_getElem? (i := 528) rfl)
set_option maxRecDepth 20000 in
theorem gt_504 : (.fieldLink RM 32 "LoanDeskModel" "level" "[I" : Cond) ∈ lw_tbl := List.mem_append_right _ (List.mem_of_getElem? (i := 529) rfl)
set_option maxRecDepth 20000 in
theorem gt_505 : (.fieldLink RM 35 "LoanDeskModel" "accrued" "[I" : Cond) ∈ lw_tbl := List.mem_append_right _ (List.mem_of_getElem? (i := 530) rfl)
set_option maxRecDepth 20000 in
theorem gt_506 : (.fieldLink RM 38 "LoanDeskModel" "upTo" "[I" : Cond) ∈ lw_tbl := List.mem_append_right _ (List.mem_of_getElem? (i := 531) rfl)
set_option maxRecDepth 20000 in
theorem gt_507 : (.fieldLink RM 41 "LoanDeskModel" "escrow" "[I" : Cond) ∈ lw_tbl := List.mem_append_right _ (List.mem_of_getElem? (i := 532) rfl)
set_option maxRecDepth 20000 in
theorem gt_508 : (.fieldLink RM 44 "LoanDeskModel" "charge" "[I" : Cond) ∈ lw_tbl := List.mem_append_right _ (List.mem_of_getElem? (i := 533) rfl)
set_option maxRecDepth 20000 in
theorem gt_509 : (.fieldLink RM 47 "LoanDeskModel" "deposit" "[I" : Cond) ∈ lw_tbl := List.mem_append_right _ (List.mem_of_getElem? (i := 534) rfl)
set_option maxRecDepth 20000 in
theorem gt_510 : (.fieldLink RM 50 "LoanDeskModel" "owed" "[I" : Cond) ∈ lw_tbl := List.mem_append_right _ (List.mem_of_getElem? (i := 535) rfl)
set_option maxRecDepth 20000 in
theorem gt_511 : (.fieldLink RM 53 "LoanDeskModel" "paid" "[Z" : Cond) ∈ lw_tbl := List.mem_append_right _ (List.mem_of_getElem? (i := 536) rfl)
set_option maxRecDepth 20000 in
theorem gt_512 : (.fieldLink RM 56 "LoanDeskModel" "parts" "[I" : Cond) ∈ lw_tbl := List.mem_append_right _ (List.mem_of_getElem? (i := 537) rfl)
set_option maxRecDepth 20000 in
theorem gt_513 : (.fieldLink RM 59 "LoanDeskModel" "bills" "[I" : Cond) ∈ lw_tbl := List.mem_append_right _ (List.mem_of_getElem? (i := 538) rfl)
set_option maxRecDepth 20000 in
theorem gt_514 : (.fieldLink RM 62 "LoanDeskModel" "billDay" "[I" : Cond) ∈ lw_tbl := List.mem_append_right _ (List.mem_of_getElem? (i := 539) rfl)
set_option maxRecDepth 20000 in
theorem gt_515 : (.fieldLink RM 65 "LoanDeskModel" "billPrincipal" "[I" : Cond) ∈ lw_tbl := List.mem_append_right _ (List.mem_of_getElem? (i := 540) rfl)
set_option maxRecDepth 20000 in
theorem gt_516 : (.fieldLink RM 68 "LoanDeskModel" "billInterest" "[I" : Cond) ∈ lw_tbl := List.mem_append_right _ (List.mem_of_getElem? (i := 541) rfl)
set_option maxRecDepth 20000 in
theorem gt_517 : (.fieldLink RM 71 "LoanDeskModel" "billPart" "[I" : Cond) ∈ lw_tbl := List.mem_append_right _ (List.mem_of_getElem? (i := 542) rfl)
set_option maxRecDepth 20000 in
theorem gt_518 : (.fieldLink RM 74 "LoanDeskModel" "billDeposit" "[I" : Cond) ∈ lw_tbl := List.mem_append_right _ (List.mem_of_getElem? (i := 543) rfl)
set_option maxRecDepth 20000 in
theorem gt_519 : (.fieldLink RM 85 "LoanDeskModel" "year" "I" : Cond) ∈ lw_tbl := List.mem_append_right _ (List.mem_of_getElem? (i := 544) rfl)
theorem gtc_12 : ∀ w ∈ GW_12, w ∈ lw_tbl := List.forall_mem_cons.mpr ⟨gt_480, List.forall_mem_cons.mpr ⟨gt_481, List.forall_mem_cons.mpr ⟨gt_482, List.forall_mem_cons.mpr ⟨gt_483, List.forall_mem_cons.mpr ⟨gt_484, List.forall_mem_cons.mpr ⟨gt_485, List.forall_mem_cons.mpr ⟨gt_486, List.forall_mem_cons.mpr ⟨gt_487, List.forall_mem_cons.mpr ⟨gt_488, List.forall_mem_cons.mpr ⟨gt_489, List.forall_mem_cons.mpr ⟨gt_490, List.forall_mem_cons.mpr ⟨gt_491, List.forall_mem_cons.mpr ⟨gt_492, List.forall_mem_cons.mpr ⟨gt_493, List.forall_mem_cons.mpr ⟨gt_494, List.forall_mem_cons.mpr ⟨gt_495, List.forall_mem_cons.mpr ⟨gt_496, List.forall_mem_cons.mpr ⟨gt_497, List.forall_mem_cons.mpr ⟨gt_498, List.forall_mem_cons.mpr ⟨gt_499, List.forall_mem_cons.mpr ⟨gt_500, List.forall_mem_cons.mpr ⟨gt_501, List.forall_mem_cons.mpr ⟨gt_502, List.forall_mem_cons.mpr ⟨gt_503, List.forall_mem_cons.mpr ⟨gt_504, List.forall_mem_cons.mpr ⟨gt_505, List.forall_mem_cons.mpr ⟨gt_506, List.forall_mem_cons.mpr ⟨gt_507, List.forall_mem_cons.mpr ⟨gt_508, List.forall_mem_cons.mpr ⟨gt_509, List.forall_mem_cons.mpr ⟨gt_510, List.forall_mem_cons.mpr ⟨gt_511, List.forall_mem_cons.mpr ⟨gt_512, List.forall_mem_cons.mpr ⟨gt_513, List.forall_mem_cons.mpr ⟨gt_514, List.forall_mem_cons.mpr ⟨gt_515, List.forall_mem_cons.mpr ⟨gt_516, List.forall_mem_cons.mpr ⟨gt_517, List.forall_mem_cons.mpr ⟨gt_518, List.forall_mem_cons.mpr ⟨gt_519, fun _ h => absurd h List.not_mem_nil⟩⟩⟩⟩⟩⟩⟩⟩⟩⟩⟩⟩⟩⟩⟩⟩⟩⟩⟩⟩⟩⟩⟩⟩⟩⟩⟩⟩⟩⟩⟩⟩⟩⟩⟩⟩⟩⟩⟩⟩
set_option maxRecDepth 20000 in
theorem gt_520 : (.fieldLink RM 88 "LoanDeskModel" "month" "I" : Cond) ∈ lw_tbl := List.mem_append_right _ (List.mem_of_getElem? (i := 545) rfl)
set_option maxRecDepth 20000 in
theorem gt_521 : (.fieldLink RM 95 "LoanDeskModel" "number" "I" : Cond) ∈ lw_tbl := List.mem_append_right _ (List.mem_of_getElem? (i := 546) rfl)
set_option maxRecDepth 20000 in
theorem gt_522 : (.lays RM "LoanDeskModel" "code" "I" : Cond) ∈ lw_tbl := List.mem_append_right _ (List.mem_of_getElem? (i := 547) rfl)
set_option maxRecDepth 20000 in
theorem gt_523 : ((Jvm.Cond.soleField "LoanDeskModel" "code") : Cond) ∈ lw_tbl := List.mem_append_right _ (List.mem_of_getElem? (i := 548) rfl)
set_option maxRecDepth 20000 in
theorem gt_524 : (.lays RM "LoanDeskModel" "today" "I" : Cond) ∈ lw_tbl := List.mem_append_right _ (List.mem_of_getElem? (i := 549) rfl)
set_option maxRecDepth 20000 in
theorem gt_525 : ((Jvm.Cond.soleField "LoanDeskModel" "today") : Cond) ∈ lw_tbl := List.mem_append_right _ (List.mem_of_getElem? (i := 550) rfl)
set_option maxRecDepth 20000 in
theorem gt_526 : (.lays RM "LoanDeskModel" "loans" "I" : Cond) ∈ lw_tbl := List.mem_append_right _ (List.mem_of_getElem? (i := 551) rfl)
set_option maxRecDepth 20000 in
theorem gt_527 : ((Jvm.Cond.soleField "LoanDeskModel" "loans") : Cond) ∈ lw_tbl := List.mem_append_right _ (List.mem_of_getElem? (i := 552) rfl)
set_option maxRecDepth 20000 in
theorem gt_528 : (.lays RM "LoanDeskModel" "opened" "[I" : Cond) ∈ lw_tbl := List.mem_append_right _ (List.mem_of_getElem? (i := 553) rfl)
set_option maxRecDepth 20000 in
theorem gt_529 : ((Jvm.Cond.soleField "LoanDeskModel" "opened") : Cond) ∈ lw_tbl := List.mem_append_right _ (List.mem_of_getElem? (i := 554) rfl)
set_option maxRecDepth 20000 in
theorem gt_530 : (.lays RM "LoanDeskModel" "rate" "[I" : Cond) ∈ lw_tbl := List.mem_append_right _ (List.mem_of_getElem? (i := 555) rfl)
set_option maxRecDepth 20000 in
theorem gt_531 : ((Jvm.Cond.soleField "LoanDeskModel" "rate") : Cond) ∈ lw_tbl := List.mem_append_right _ (List.mem_of_getElem? (i := 556) rfl)
set_option maxRecDepth 20000 in
theorem gt_532 : (.lays RM "LoanDeskModel" "months" "[I" : Cond) ∈ lw_tbl := List.mem_append_right _ (List.mem_of_getElem? (i := 557) rfl)
set_option maxRecDepth 20000 in
theorem gt_533 : ((Jvm.Cond.soleField "LoanDeskModel" "months") : Cond) ∈ lw_tbl := List.mem_append_right _ (List.mem_of_getElem? (i := 558) rfl)
set_option maxRecDepth 20000 in
theorem gt_534 : (.lays RM "LoanDeskModel" "rule" "[I" : Cond) ∈ lw_tbl := List.mem_append_right _ (List.mem_of_getElem? (i := 559) rfl)
set_option maxRecDepth 20000 in
theorem gt_535 : ((Jvm.Cond.soleField "LoanDeskModel" "rule") : Cond) ∈ lw_tbl := List.mem_append_right _ (List.mem_of_getElem? (i := 560) rfl)
set_option maxRecDepth 20000 in
theorem gt_536 : (.lays RM "LoanDeskModel" "rounding" "[I" : Cond) ∈ lw_tbl := List.mem_append_right _ (List.mem_of_getElem? (i := 561) rfl)
set_option maxRecDepth 20000 in
theorem gt_537 : ((Jvm.Cond.soleField "LoanDeskModel" "rounding") : Cond) ∈ lw_tbl := List.mem_append_right _ (List.mem_of_getElem? (i := 562) rfl)
set_option maxRecDepth 20000 in
theorem gt_538 : (.lays RM "LoanDeskModel" "steady" "[Z" : Cond) ∈ lw_tbl := List.mem_append_right _ (List.mem_of_getElem? (i := 563) rfl)
set_option maxRecDepth 20000 in
theorem gt_539 : ((Jvm.Cond.soleField "LoanDeskModel" "steady") : Cond) ∈ lw_tbl := List.mem_append_right _ (List.mem_of_getElem? (i := 564) rfl)
set_option maxRecDepth 20000 in
theorem gt_540 : (.lays RM "LoanDeskModel" "principal" "[I" : Cond) ∈ lw_tbl := List.mem_append_right _ (List.mem_of_getElem? (i := 565) rfl)
set_option maxRecDepth 20000 in
theorem gt_541 : ((Jvm.Cond.soleField "LoanDeskModel" "principal") : Cond) ∈ lw_tbl := List.mem_append_right _ (List.mem_of_getElem? (i := 566) rfl)
set_option maxRecDepth 20000 in
theorem gt_542 : (.lays RM "LoanDeskModel" "level" "[I" : Cond) ∈ lw_tbl := List.mem_append_right _ (List.mem_of_getElem? (i := 567) rfl)
set_option maxRecDepth 20000 in
theorem gt_543 : ((Jvm.Cond.soleField "LoanDeskModel" "level") : Cond) ∈ lw_tbl := List.mem_append_right _ (List.mem_of_getElem? (i := 568) rfl)
set_option maxRecDepth 20000 in
theorem gt_544 : (.lays RM "LoanDeskModel" "accrued" "[I" : Cond) ∈ lw_tbl := List.mem_append_right _ (List.mem_of_getElem? (i := 569) rfl)
set_option maxRecDepth 20000 in
theorem gt_545 : ((Jvm.Cond.soleField "LoanDeskModel" "accrued") : Cond) ∈ lw_tbl := List.mem_append_right _ (List.mem_of_getElem? (i := 570) rfl)
set_option maxRecDepth 20000 in
theorem gt_546 : (.lays RM "LoanDeskModel" "upTo" "[I" : Cond) ∈ lw_tbl := List.mem_append_right _ (List.mem_of_getElem? (i := 571) rfl)
set_option maxRecDepth 20000 in
theorem gt_547 : ((Jvm.Cond.soleField "LoanDeskModel" "upTo") : Cond) ∈ lw_tbl := List.mem_append_right _ (List.mem_of_getElem? (i := 572) rfl)
set_option maxRecDepth 20000 in
theorem gt_548 : (.lays RM "LoanDeskModel" "escrow" "[I" : Cond) ∈ lw_tbl := List.mem_append_right _ (List.mem_of_getElem? (i := 573) rfl)
set_option maxRecDepth 20000 in
theorem gt_549 : ((Jvm.Cond.soleField "LoanDeskModel" "escrow") : Cond) ∈ lw_tbl := List.mem_append_right _ (List.mem_of_getElem? (i := 574) rfl)
set_option maxRecDepth 20000 in
theorem gt_550 : (.lays RM "LoanDeskModel" "charge" "[I" : Cond) ∈ lw_tbl := List.mem_append_right _ (List.mem_of_getElem? (i := 575) rfl)
set_option maxRecDepth 20000 in
theorem gt_551 : ((Jvm.Cond.soleField "LoanDeskModel" "charge") : Cond) ∈ lw_tbl := List.mem_append_right _ (List.mem_of_getElem? (i := 576) rfl)
set_option maxRecDepth 20000 in
theorem gt_552 : (.lays RM "LoanDeskModel" "deposit" "[I" : Cond) ∈ lw_tbl := List.mem_append_right _ (List.mem_of_getElem? (i := 577) rfl)
set_option maxRecDepth 20000 in
theorem gt_553 : ((Jvm.Cond.soleField "LoanDeskModel" "deposit") : Cond) ∈ lw_tbl := List.mem_append_right _ (List.mem_of_getElem? (i := 578) rfl)
set_option maxRecDepth 20000 in
theorem gt_554 : (.lays RM "LoanDeskModel" "owed" "[I" : Cond) ∈ lw_tbl := List.mem_append_right _ (List.mem_of_getElem? (i := 579) rfl)
set_option maxRecDepth 20000 in
theorem gt_555 : ((Jvm.Cond.soleField "LoanDeskModel" "owed") : Cond) ∈ lw_tbl := List.mem_append_right _ (List.mem_of_getElem? (i := 580) rfl)
set_option maxRecDepth 20000 in
theorem gt_556 : (.lays RM "LoanDeskModel" "paid" "[Z" : Cond) ∈ lw_tbl := List.mem_append_right _ (List.mem_of_getElem? (i := 581) rfl)
set_option maxRecDepth 20000 in
theorem gt_557 : ((Jvm.Cond.soleField "LoanDeskModel" "paid") : Cond) ∈ lw_tbl := List.mem_append_right _ (List.mem_of_getElem? (i := 582) rfl)
set_option maxRecDepth 20000 in
theorem gt_558 : (.lays RM "LoanDeskModel" "parts" "[I" : Cond) ∈ lw_tbl := List.mem_append_right _ (List.mem_of_getElem? (i := 583) rfl)
set_option maxRecDepth 20000 in
theorem gt_559 : ((Jvm.Cond.soleField "LoanDeskModel" "parts") : Cond) ∈ lw_tbl := List.mem_append_right _ (List.mem_of_getElem? (i := 584) rfl)
theorem gtc_13 : ∀ w ∈ GW_13, w ∈ lw_tbl := List.forall_mem_cons.mpr ⟨gt_520, List.forall_mem_cons.mpr ⟨gt_521, List.forall_mem_cons.mpr ⟨gt_522, List.forall_mem_cons.mpr ⟨gt_523, List.forall_mem_cons.mpr ⟨gt_524, List.forall_mem_cons.mpr ⟨gt_525, List.forall_mem_cons.mpr ⟨gt_526, List.forall_mem_cons.mpr ⟨gt_527, List.forall_mem_cons.mpr ⟨gt_528, List.forall_mem_cons.mpr ⟨gt_529, List.forall_mem_cons.mpr ⟨gt_530, List.forall_mem_cons.mpr ⟨gt_531, List.forall_mem_cons.mpr ⟨gt_532, List.forall_mem_cons.mpr ⟨gt_533, List.forall_mem_cons.mpr ⟨gt_534, List.forall_mem_cons.mpr ⟨gt_535, List.forall_mem_cons.mpr ⟨gt_536, List.forall_mem_cons.mpr ⟨gt_537, List.forall_mem_cons.mpr ⟨gt_538, List.forall_mem_cons.mpr ⟨gt_539, List.forall_mem_cons.mpr ⟨gt_540, List.forall_mem_cons.mpr ⟨gt_541, List.forall_mem_cons.mpr ⟨gt_542, List.forall_mem_cons.mpr ⟨gt_543, List.forall_mem_cons.mpr ⟨gt_544, List.forall_mem_cons.mpr ⟨gt_545, List.forall_mem_cons.mpr ⟨gt_546, List.forall_mem_cons.mpr ⟨gt_547, List.forall_mem_cons.mpr ⟨gt_548, List.forall_mem_cons.mpr ⟨gt_549, List.forall_mem_cons.mpr ⟨gt_550, List.forall_mem_cons.mpr ⟨gt_551, List.forall_mem_cons.mpr ⟨gt_552, List.forall_mem_cons.mpr ⟨gt_553, List.forall_mem_cons.mpr ⟨gt_554, List.forall_mem_cons.mpr ⟨gt_555, List.forall_mem_cons.mpr ⟨gt_556, List.forall_mem_cons.mpr ⟨gt_557, List.forall_mem_cons.mpr ⟨gt_558, List.forall_mem_cons.mpr ⟨gt_559, fun _ h => absurd h List.not_mem_nil⟩⟩⟩⟩⟩⟩⟩⟩⟩⟩⟩⟩⟩⟩⟩⟩⟩⟩⟩⟩⟩⟩⟩⟩⟩⟩⟩⟩⟩⟩⟩⟩⟩⟩⟩⟩⟩⟩⟩⟩
set_option maxRecDepth 20000 in
theorem gt_560 : (.lays RM "LoanDeskModel" "bills" "[I" : Cond) ∈ lw_tbl := List.mem_append_right _ (List.mem_of_getElem? (i := 585) rfl)
set_option maxRecDepth 20000 in
theorem gt_561 : ((Jvm.Cond.soleField "LoanDeskModel" "bills") : Cond) ∈ lw_tbl := List.mem_append_right _ (List.mem_of_getElem? (i := 586) rfl)
set_option maxRecDepth 20000 in
theorem gt_562 : (.lays RM "LoanDeskModel" "billDay" "[I" : Cond) ∈ lw_tbl := List.mem_append_right _ (List.mem_of_getElem? (i := 587) rfl)
set_option maxRecDepth 20000 in
theorem gt_563 : ((Jvm.Cond.soleField "LoanDeskModel" "billDay") : Cond) ∈ lw_tbl := List.mem_append_right _ (List.mem_of_getElem? (i := 588) rfl)
set_option maxRecDepth 20000 in
theorem gt_564 : (.lays RM "LoanDeskModel" "billPrincipal" "[I" : Cond) ∈ lw_tbl := List.mem_append_right _ (List.mem_of_getElem? (i := 589) rfl)
set_option maxRecDepth 20000 in
theorem gt_565 : ((Jvm.Cond.soleField "LoanDeskModel" "billPrincipal") : Cond) ∈ lw_tbl := List.mem_append_right _ (List.mem_of_getElem? (i := 590) rfl)
set_option maxRecDepth 20000 in
theorem gt_566 : (.lays RM "LoanDeskModel" "billInterest" "[I" : Cond) ∈ lw_tbl := List.mem_append_right _ (List.mem_of_getElem? (i := 591) rfl)
set_option maxRecDepth 20000 in
theorem gt_567 : ((Jvm.Cond.soleField "LoanDeskModel" "billInterest") : Cond) ∈ lw_tbl := List.mem_append_right _ (List.mem_of_getElem? (i := 592) rfl)
set_option maxRecDepth 20000 in
theorem gt_568 : (.lays RM "LoanDeskModel" "billPart" "[I" : Cond) ∈ lw_tbl := List.mem_append_right _ (List.mem_of_getElem? (i := 593) rfl)
set_option maxRecDepth 20000 in
theorem gt_569 : ((Jvm.Cond.soleField "LoanDeskModel" "billPart") : Cond) ∈ lw_tbl := List.mem_append_right _ (List.mem_of_getElem? (i := 594) rfl)
set_option maxRecDepth 20000 in
theorem gt_570 : (.lays RM "LoanDeskModel" "billDeposit" "[I" : Cond) ∈ lw_tbl := List.mem_append_right _ (List.mem_of_getElem? (i := 595) rfl)
set_option maxRecDepth 20000 in
theorem gt_571 : ((Jvm.Cond.soleField "LoanDeskModel" "billDeposit") : Cond) ∈ lw_tbl := List.mem_append_right _ (List.mem_of_getElem? (i := 596) rfl)
set_option maxRecDepth 20000 in
theorem gt_572 : (.lays RM "LoanDeskModel" "year" "I" : Cond) ∈ lw_tbl := List.mem_append_right _ (List.mem_of_getElem? (i := 597) rfl)
set_option maxRecDepth 20000 in
theorem gt_573 : ((Jvm.Cond.soleField "LoanDeskModel" "year") : Cond) ∈ lw_tbl := List.mem_append_right _ (List.mem_of_getElem? (i := 598) rfl)
set_option maxRecDepth 20000 in
theorem gt_574 : (.lays RM "LoanDeskModel" "month" "I" : Cond) ∈ lw_tbl := List.mem_append_right _ (List.mem_of_getElem? (i := 599) rfl)
set_option maxRecDepth 20000 in
theorem gt_575 : ((Jvm.Cond.soleField "LoanDeskModel" "month") : Cond) ∈ lw_tbl := List.mem_append_right _ (List.mem_of_getElem? (i := 600) rfl)
set_option maxRecDepth 20000 in
theorem gt_576 : (.lays RM "LoanDeskModel" "number" "I" : Cond) ∈ lw_tbl := List.mem_append_right _ (List.mem_of_getElem? (i := 601) rfl)
set_option maxRecDepth 20000 in
theorem gt_577 : ((Jvm.Cond.soleField "LoanDeskModel" "number") : Cond) ∈ lw_tbl := List.mem_append_right _ (List.mem_of_getElem? (i := 602) rfl)
set_option maxRecDepth 20000 in
theorem gt_578 : ((Jvm.Cond.superclass "LoanDeskModel" "java/lang/Object") : Cond) ∈ lw_tbl := List.mem_append_right _ (List.mem_of_getElem? (i := 603) rfl)
set_option maxRecDepth 20000 in
theorem gt_579 : (.arrayClass .boolean : Cond) ∈ lw_tbl := List.mem_append_right _ (List.mem_of_getElem? (i := 604) rfl)
set_option maxRecDepth 20000 in
theorem gt_580 : (.methodLink RL 78 yM_thrown : Cond) ∈ lw_tbl := List.mem_append_right _ (List.mem_of_getElem? (i := 605) rfl)
set_option maxRecDepth 20000 in
theorem gt_581 : (.instanceMethod yM_thrown : Cond) ∈ lw_tbl := List.mem_append_right _ (List.mem_of_getElem? (i := 606) rfl)
set_option maxRecDepth 20000 in
theorem gt_582 : (.selects RM yM_thrown yM_thrown : Cond) ∈ lw_tbl := List.mem_append_right _ (List.mem_of_getElem? (i := 607) rfl)
set_option maxRecDepth 20000 in
theorem gt_583 : (.code yM_thrown cM_thrown 1 (some .int) : Cond) ∈ lw_tbl := List.mem_append_right _ (List.mem_of_getElem? (i := 608) rfl)
set_option maxRecDepth 20000 in
theorem gt_584 : (.methodLink RL 100 yM_date : Cond) ∈ lw_tbl := List.mem_append_right _ (List.mem_of_getElem? (i := 609) rfl)
set_option maxRecDepth 20000 in
theorem gt_585 : (.instanceMethod yM_date : Cond) ∈ lw_tbl := List.mem_append_right _ (List.mem_of_getElem? (i := 610) rfl)
set_option maxRecDepth 20000 in
theorem gt_586 : (.selects RM yM_date yM_date : Cond) ∈ lw_tbl := List.mem_append_right _ (List.mem_of_getElem? (i := 611) rfl)
set_option maxRecDepth 20000 in
theorem gt_587 : (.code yM_date cM_date 1 (some .int) : Cond) ∈ lw_tbl := List.mem_append_right _ (List.mem_of_getElem? (i := 612) rfl)
set_option maxRecDepth 20000 in
theorem gt_588 : (.methodLink RM 98 yM_find : Cond) ∈ lw_tbl := List.mem_append_right _ (List.mem_of_getElem? (i := 613) rfl)
set_option maxRecDepth 20000 in
theorem gt_589 : (.instanceMethod yM_find : Cond) ∈ lw_tbl := List.mem_append_right _ (List.mem_of_getElem? (i := 615) rfl)
set_option maxRecDepth 20000 in
theorem gt_590 : (.code yM_find cM_find 3 none : Cond) ∈ lw_tbl := List.mem_append_right _ (List.mem_of_getElem? (i := 616) rfl)
set_option maxRecDepth 20000 in
theorem gt_591 : (.methodLink RM 81 yM_daysOf : Cond) ∈ lw_tbl := List.mem_append_right _ (List.mem_of_getElem? (i := 617) rfl)
set_option maxRecDepth 20000 in
theorem gt_592 : (.static yM_daysOf : Cond) ∈ lw_tbl := List.mem_append_right _ (List.mem_of_getElem? (i := 618) rfl)
set_option maxRecDepth 20000 in
theorem gt_593 : (.code yM_daysOf cM_daysOf 1 (some .int) : Cond) ∈ lw_tbl := List.mem_append_right _ (List.mem_of_getElem? (i := 619) rfl)
set_option maxRecDepth 20000 in
theorem gt_594 : (.methodLink RM 91 yM_daysIn : Cond) ∈ lw_tbl := List.mem_append_right _ (List.mem_of_getElem? (i := 620) rfl)
set_option maxRecDepth 20000 in
theorem gt_595 : (.static yM_daysIn : Cond) ∈ lw_tbl := List.mem_append_right _ (List.mem_of_getElem? (i := 621) rfl)
set_option maxRecDepth 20000 in
theorem gt_596 : (.code yM_daysIn cM_daysIn 2 (some .int) : Cond) ∈ lw_tbl := List.mem_append_right _ (List.mem_of_getElem? (i := 622) rfl)
set_option maxRecDepth 20000 in
theorem gt_597 : (.methodLink RL 132 yM_interest : Cond) ∈ lw_tbl := List.mem_append_right _ (List.mem_of_getElem? (i := 623) rfl)
set_option maxRecDepth 20000 in
theorem gt_598 : (.instanceMethod yM_interest : Cond) ∈ lw_tbl := List.mem_append_right _ (List.mem_of_getElem? (i := 624) rfl)
set_option maxRecDepth 20000 in
theorem gt_599 : (.selects RM yM_interest yM_interest : Cond) ∈ lw_tbl := List.mem_append_right _ (List.mem_of_getElem? (i := 625) rfl)
theorem gtc_14 : ∀ w ∈ GW_14, w ∈ lw_tbl := List.forall_mem_cons.mpr ⟨gt_560, List.forall_mem_cons.mpr ⟨gt_561, List.forall_mem_cons.mpr ⟨gt_562, List.forall_mem_cons.mpr ⟨gt_563, List.forall_mem_cons.mpr ⟨gt_564, List.forall_mem_cons.mpr ⟨gt_565, List.forall_mem_cons.mpr ⟨gt_566, List.forall_mem_cons.mpr ⟨gt_567, List.forall_mem_cons.mpr ⟨gt_568, List.forall_mem_cons.mpr ⟨gt_569, List.forall_mem_cons.mpr ⟨gt_570, List.forall_mem_cons.mpr ⟨gt_571, List.forall_mem_cons.mpr ⟨gt_572, List.forall_mem_cons.mpr ⟨gt_573, List.forall_mem_cons.mpr ⟨gt_574, List.forall_mem_cons.mpr ⟨gt_575, List.forall_mem_cons.mpr ⟨gt_576, List.forall_mem_cons.mpr ⟨gt_577, List.forall_mem_cons.mpr ⟨gt_578, List.forall_mem_cons.mpr ⟨gt_579, List.forall_mem_cons.mpr ⟨gt_580, List.forall_mem_cons.mpr ⟨gt_581, List.forall_mem_cons.mpr ⟨gt_582, List.forall_mem_cons.mpr ⟨gt_583, List.forall_mem_cons.mpr ⟨gt_584, List.forall_mem_cons.mpr ⟨gt_585, List.forall_mem_cons.mpr ⟨gt_586, List.forall_mem_cons.mpr ⟨gt_587, List.forall_mem_cons.mpr ⟨gt_588, List.forall_mem_cons.mpr ⟨gt_589, List.forall_mem_cons.mpr ⟨gt_590, List.forall_mem_cons.mpr ⟨gt_591, List.forall_mem_cons.mpr ⟨gt_592, List.forall_mem_cons.mpr ⟨gt_593, List.forall_mem_cons.mpr ⟨gt_594, List.forall_mem_cons.mpr ⟨gt_595, List.forall_mem_cons.mpr ⟨gt_596, List.forall_mem_cons.mpr ⟨gt_597, List.forall_mem_cons.mpr ⟨gt_598, List.forall_mem_cons.mpr ⟨gt_599, fun _ h => absurd h List.not_mem_nil⟩⟩⟩⟩⟩⟩⟩⟩⟩⟩⟩⟩⟩⟩⟩⟩⟩⟩⟩⟩⟩⟩⟩⟩⟩⟩⟩⟩⟩⟩⟩⟩⟩⟩⟩⟩⟩⟩⟩⟩
set_option maxRecDepth 20000 in
theorem gt_600 : (.code yM_interest cM_interest 8 (some .int) : Cond) ∈ lw_tbl := List.mem_append_right _ (List.mem_of_getElem? (i := 626) rfl)
set_option maxRecDepth 20000 in
theorem gt_601 : (.constant RM 133 (100000000) : Cond) ∈ lw_tbl := List.mem_append_right _ (List.mem_of_getElem? (i := 627) rfl)
set_option maxRecDepth 20000 in
theorem gt_602 : (.methodLink RM 134 yM_within : Cond) ∈ lw_tbl := List.mem_append_right _ (List.mem_of_getElem? (i := 628) rfl)
set_option maxRecDepth 20000 in
theorem gt_603 : (.static yM_within : Cond) ∈ lw_tbl := List.mem_append_right _ (List.mem_of_getElem? (i := 629) rfl)
set_option maxRecDepth 20000 in
theorem gt_604 : (.code yM_within cM_within 3 (some .boolean) : Cond) ∈ lw_tbl := List.mem_append_right _ (List.mem_of_getElem? (i := 630) rfl)
set_option maxRecDepth 20000 in
theorem gt_605 : (.methodLink RM 138 yM_interestOn : Cond) ∈ lw_tbl := List.mem_append_right _ (List.mem_of_getElem? (i := 631) rfl)
set_option maxRecDepth 20000 in
theorem gt_606 : (.instanceMethod yM_interestOn : Cond) ∈ lw_tbl := List.mem_append_right _ (List.mem_of_getElem? (i := 633) rfl)
set_option maxRecDepth 20000 in
theorem gt_607 : (.code yM_interestOn cM_interestOn 7 (some .int) : Cond) ∈ lw_tbl := List.mem_append_right _ (List.mem_of_getElem? (i := 634) rfl)
set_option maxRecDepth 20000 in
theorem gt_608 : (.methodLink RM 119 yM_span : Cond) ∈ lw_tbl := List.mem_append_right _ (List.mem_of_getElem? (i := 635) rfl)
set_option maxRecDepth 20000 in
theorem gt_609 : (.instanceMethod yM_span : Cond) ∈ lw_tbl := List.mem_append_right _ (List.mem_of_getElem? (i := 637) rfl)
set_option maxRecDepth 20000 in
theorem gt_610 : (.code yM_span cM_span 11 (some .long) : Cond) ∈ lw_tbl := List.mem_append_right _ (List.mem_of_getElem? (i := 638) rfl)
set_option maxRecDepth 20000 in
theorem gt_611 : (.constantLong RM 109 (365) : Cond) ∈ lw_tbl := List.mem_append_right _ (List.mem_of_getElem? (i := 639) rfl)
set_option maxRecDepth 20000 in
theorem gt_612 : (.constantLong RM 115 (366) : Cond) ∈ lw_tbl := List.mem_append_right _ (List.mem_of_getElem? (i := 640) rfl)
set_option maxRecDepth 20000 in
theorem gt_613 : (.constantLong RM 123 (100000) : Cond) ∈ lw_tbl := List.mem_append_right _ (List.mem_of_getElem? (i := 641) rfl)
set_option maxRecDepth 20000 in
theorem gt_614 : (.methodLink RM 125 yM_under : Cond) ∈ lw_tbl := List.mem_append_right _ (List.mem_of_getElem? (i := 642) rfl)
set_option maxRecDepth 20000 in
theorem gt_615 : (.static yM_under : Cond) ∈ lw_tbl := List.mem_append_right _ (List.mem_of_getElem? (i := 643) rfl)
set_option maxRecDepth 20000 in
theorem gt_616 : (.code yM_under cM_under 1 (some .long) : Cond) ∈ lw_tbl := List.mem_append_right _ (List.mem_of_getElem? (i := 644) rfl)
set_option maxRecDepth 20000 in
theorem gt_617 : (.constantLong RM 111 (133590) : Cond) ∈ lw_tbl := List.mem_append_right _ (List.mem_of_getElem? (i := 645) rfl)
set_option maxRecDepth 20000 in
theorem gt_618 : (.constantLong RM 113 (360) : Cond) ∈ lw_tbl := List.mem_append_right _ (List.mem_of_getElem? (i := 646) rfl)
set_option maxRecDepth 20000 in
theorem gt_619 : (.methodLink RM 129 yM_rounded : Cond) ∈ lw_tbl := List.mem_append_right _ (List.mem_of_getElem? (i := 647) rfl)
set_option maxRecDepth 20000 in
theorem gt_620 : (.static yM_rounded : Cond) ∈ lw_tbl := List.mem_append_right _ (List.mem_of_getElem? (i := 648) rfl)
set_option maxRecDepth 20000 in
theorem gt_621 : (.code yM_rounded cM_rounded 10 (some .long) : Cond) ∈ lw_tbl := List.mem_append_right _ (List.mem_of_getElem? (i := 649) rfl)
set_option maxRecDepth 20000 in
theorem gt_622 : (.constantLong RM 117 (2) : Cond) ∈ lw_tbl := List.mem_append_right _ (List.mem_of_getElem? (i := 650) rfl)
set_option maxRecDepth 20000 in
theorem gt_623 : (.methodLink RL 77 yM_open : Cond) ∈ lw_tbl := List.mem_append_right _ (List.mem_of_getElem? (i := 651) rfl)
set_option maxRecDepth 20000 in
theorem gt_624 : (.instanceMethod yM_open : Cond) ∈ lw_tbl := List.mem_append_right _ (List.mem_of_getElem? (i := 652) rfl)
set_option maxRecDepth 20000 in
theorem gt_625 : (.selects RM yM_open yM_open : Cond) ∈ lw_tbl := List.mem_append_right _ (List.mem_of_getElem? (i := 653) rfl)
set_option maxRecDepth 20000 in
theorem gt_626 : (.code yM_open cM_open 9 (some .int) : Cond) ∈ lw_tbl := List.mem_append_right _ (List.mem_of_getElem? (i := 654) rfl)
set_option maxRecDepth 20000 in
theorem gt_627 : (.methodLink RM 163 yM_reckon : Cond) ∈ lw_tbl := List.mem_append_right _ (List.mem_of_getElem? (i := 655) rfl)
set_option maxRecDepth 20000 in
theorem gt_628 : (.instanceMethod yM_reckon : Cond) ∈ lw_tbl := List.mem_append_right _ (List.mem_of_getElem? (i := 657) rfl)
set_option maxRecDepth 20000 in
theorem gt_629 : (.code yM_reckon cM_reckon 6 none : Cond) ∈ lw_tbl := List.mem_append_right _ (List.mem_of_getElem? (i := 658) rfl)
set_option maxRecDepth 20000 in
theorem gt_630 : (.methodLink RM 152 yM_firstBehind : Cond) ∈ lw_tbl := List.mem_append_right _ (List.mem_of_getElem? (i := 659) rfl)
set_option maxRecDepth 20000 in
theorem gt_631 : (.instanceMethod yM_firstBehind : Cond) ∈ lw_tbl := List.mem_append_right _ (List.mem_of_getElem? (i := 661) rfl)
set_option maxRecDepth 20000 in
theorem gt_632 : (.code yM_firstBehind cM_firstBehind 3 (some .int) : Cond) ∈ lw_tbl := List.mem_append_right _ (List.mem_of_getElem? (i := 662) rfl)
set_option maxRecDepth 20000 in
theorem gt_633 : (.methodLink RM 142 yM_monthsSince : Cond) ∈ lw_tbl := List.mem_append_right _ (List.mem_of_getElem? (i := 663) rfl)
set_option maxRecDepth 20000 in
theorem gt_634 : (.instanceMethod yM_monthsSince : Cond) ∈ lw_tbl := List.mem_append_right _ (List.mem_of_getElem? (i := 665) rfl)
set_option maxRecDepth 20000 in
theorem gt_635 : (.code yM_monthsSince cM_monthsSince 3 (some .int) : Cond) ∈ lw_tbl := List.mem_append_right _ (List.mem_of_getElem? (i := 666) rfl)
set_option maxRecDepth 20000 in
theorem gt_636 : (.methodLink RM 145 yM_dueDay : Cond) ∈ lw_tbl := List.mem_append_right _ (List.mem_of_getElem? (i := 667) rfl)
set_option maxRecDepth 20000 in
theorem gt_637 : (.instanceMethod yM_dueDay : Cond) ∈ lw_tbl := List.mem_append_right _ (List.mem_of_getElem? (i := 669) rfl)
set_option maxRecDepth 20000 in
theorem gt_638 : (.code yM_dueDay cM_dueDay 7 (some .int) : Cond) ∈ lw_tbl := List.mem_append_right _ (List.mem_of_getElem? (i := 670) rfl)
set_option maxRecDepth 20000 in
theorem gt_639 : (.methodLink RM 102 yM_dayOf : Cond) ∈ lw_tbl := List.mem_append_right _ (List.mem_of_getElem? (i := 671) rfl)
theorem gtc_15 : ∀ w ∈ GW_15, w ∈ lw_tbl := List.forall_mem_cons.mpr ⟨gt_600, List.forall_mem_cons.mpr ⟨gt_601, List.forall_mem_cons.mpr ⟨gt_602, List.forall_mem_cons.mpr ⟨gt_603, List.forall_mem_cons.mpr ⟨gt_604, List.forall_mem_cons.mpr ⟨gt_605, List.forall_mem_cons.mpr ⟨gt_606, List.forall_mem_cons.mpr ⟨gt_607, List.forall_mem_cons.mpr ⟨gt_608, List.forall_mem_cons.mpr ⟨gt_609, List.forall_mem_cons.mpr ⟨gt_610, List.forall_mem_cons.mpr ⟨gt_611, List.forall_mem_cons.mpr ⟨gt_612, List.forall_mem_cons.mpr ⟨gt_613, List.forall_mem_cons.mpr ⟨gt_614, List.forall_mem_cons.mpr ⟨gt_615, List.forall_mem_cons.mpr ⟨gt_616, List.forall_mem_cons.mpr ⟨gt_617, List.forall_mem_cons.mpr ⟨gt_618, List.forall_mem_cons.mpr ⟨gt_619, List.forall_mem_cons.mpr ⟨gt_620, List.forall_mem_cons.mpr ⟨gt_621, List.forall_mem_cons.mpr ⟨gt_622, List.forall_mem_cons.mpr ⟨gt_623, List.forall_mem_cons.mpr ⟨gt_624, List.forall_mem_cons.mpr ⟨gt_625, List.forall_mem_cons.mpr ⟨gt_626, List.forall_mem_cons.mpr ⟨gt_627, List.forall_mem_cons.mpr ⟨gt_628, List.forall_mem_cons.mpr ⟨gt_629, List.forall_mem_cons.mpr ⟨gt_630, List.forall_mem_cons.mpr ⟨gt_631, List.forall_mem_cons.mpr ⟨gt_632, List.forall_mem_cons.mpr ⟨gt_633, List.forall_mem_cons.mpr ⟨gt_634, List.forall_mem_cons.mpr ⟨gt_635, List.forall_mem_cons.mpr ⟨gt_636, List.forall_mem_cons.mpr ⟨gt_637, List.forall_mem_cons.mpr ⟨gt_638, List.forall_mem_cons.mpr ⟨gt_639, fun _ h => absurd h List.not_mem_nil⟩⟩⟩⟩⟩⟩⟩⟩⟩⟩⟩⟩⟩⟩⟩⟩⟩⟩⟩⟩⟩⟩⟩⟩⟩⟩⟩⟩⟩⟩⟩⟩⟩⟩⟩⟩⟩⟩⟩⟩
set_option maxRecDepth 20000 in
theorem gt_640 : (.static yM_dayOf : Cond) ∈ lw_tbl := List.mem_append_right _ (List.mem_of_getElem? (i := 672) rfl)
set_option maxRecDepth 20000 in
theorem gt_641 : (.code yM_dayOf cM_dayOf 5 (some .int) : Cond) ∈ lw_tbl := List.mem_append_right _ (List.mem_of_getElem? (i := 673) rfl)
set_option maxRecDepth 20000 in
theorem gt_642 : (.constant RM 155 (134217728) : Cond) ∈ lw_tbl := List.mem_append_right _ (List.mem_of_getElem? (i := 674) rfl)
set_option maxRecDepth 20000 in
theorem gt_643 : (.methodLink RM 156 yM_leaves : Cond) ∈ lw_tbl := List.mem_append_right _ (List.mem_of_getElem? (i := 675) rfl)
set_option maxRecDepth 20000 in
theorem gt_644 : (.instanceMethod yM_leaves : Cond) ∈ lw_tbl := List.mem_append_right _ (List.mem_of_getElem? (i := 677) rfl)
set_option maxRecDepth 20000 in
theorem gt_645 : (.code yM_leaves cM_leaves 10 (some .boolean) : Cond) ∈ lw_tbl := List.mem_append_right _ (List.mem_of_getElem? (i := 678) rfl)
set_option maxRecDepth 20000 in
theorem gt_646 : (.methodLink RM 148 yM_own : Cond) ∈ lw_tbl := List.mem_append_right _ (List.mem_of_getElem? (i := 679) rfl)
set_option maxRecDepth 20000 in
theorem gt_647 : (.instanceMethod yM_own : Cond) ∈ lw_tbl := List.mem_append_right _ (List.mem_of_getElem? (i := 681) rfl)
set_option maxRecDepth 20000 in
theorem gt_648 : (.code yM_own cM_own 5 (some .int) : Cond) ∈ lw_tbl := List.mem_append_right _ (List.mem_of_getElem? (i := 682) rfl)
set_option maxRecDepth 20000 in
theorem gt_649 : (.methodLink RL 85 yM_charge : Cond) ∈ lw_tbl := List.mem_append_right _ (List.mem_of_getElem? (i := 683) rfl)
set_option maxRecDepth 20000 in
theorem gt_650 : (.instanceMethod yM_charge : Cond) ∈ lw_tbl := List.mem_append_right _ (List.mem_of_getElem? (i := 684) rfl)
set_option maxRecDepth 20000 in
theorem gt_651 : (.selects RM yM_charge yM_charge : Cond) ∈ lw_tbl := List.mem_append_right _ (List.mem_of_getElem? (i := 685) rfl)
set_option maxRecDepth 20000 in
theorem gt_652 : (.code yM_charge cM_charge 3 none : Cond) ∈ lw_tbl := List.mem_append_right _ (List.mem_of_getElem? (i := 686) rfl)
set_option maxRecDepth 20000 in
theorem gt_653 : (.methodLink RM 167 yM_none : Cond) ∈ lw_tbl := List.mem_append_right _ (List.mem_of_getElem? (i := 687) rfl)
set_option maxRecDepth 20000 in
theorem gt_654 : (.instanceMethod yM_none : Cond) ∈ lw_tbl := List.mem_append_right _ (List.mem_of_getElem? (i := 689) rfl)
set_option maxRecDepth 20000 in
theorem gt_655 : (.code yM_none cM_none 2 (some .boolean) : Cond) ∈ lw_tbl := List.mem_append_right _ (List.mem_of_getElem? (i := 690) rfl)
set_option maxRecDepth 20000 in
theorem gt_656 : (.constant RM 171 (10000000) : Cond) ∈ lw_tbl := List.mem_append_right _ (List.mem_of_getElem? (i := 691) rfl)
set_option maxRecDepth 20000 in
theorem gt_657 : (.methodLink RM 172 yM_twelfth : Cond) ∈ lw_tbl := List.mem_append_right _ (List.mem_of_getElem? (i := 692) rfl)
set_option maxRecDepth 20000 in
theorem gt_658 : (.static yM_twelfth : Cond) ∈ lw_tbl := List.mem_append_right _ (List.mem_of_getElem? (i := 693) rfl)
set_option maxRecDepth 20000 in
theorem gt_659 : (.code yM_twelfth cM_twelfth 1 (some .int) : Cond) ∈ lw_tbl := List.mem_append_right _ (List.mem_of_getElem? (i := 694) rfl)
set_option maxRecDepth 20000 in
theorem gt_660 : (.methodLink RL 89 yM_advance : Cond) ∈ lw_tbl := List.mem_append_right _ (List.mem_of_getElem? (i := 695) rfl)
set_option maxRecDepth 20000 in
theorem gt_661 : (.instanceMethod yM_advance : Cond) ∈ lw_tbl := List.mem_append_right _ (List.mem_of_getElem? (i := 696) rfl)
set_option maxRecDepth 20000 in
theorem gt_662 : (.selects RM yM_advance yM_advance : Cond) ∈ lw_tbl := List.mem_append_right _ (List.mem_of_getElem? (i := 697) rfl)
set_option maxRecDepth 20000 in
theorem gt_663 : (.code yM_advance cM_advance 5 (some .int) : Cond) ∈ lw_tbl := List.mem_append_right _ (List.mem_of_getElem? (i := 698) rfl)
set_option maxRecDepth 20000 in
theorem gt_664 : (.methodLink RM 190 yM_dayOfLoan : Cond) ∈ lw_tbl := List.mem_append_right _ (List.mem_of_getElem? (i := 699) rfl)
set_option maxRecDepth 20000 in
theorem gt_665 : (.instanceMethod yM_dayOfLoan : Cond) ∈ lw_tbl := List.mem_append_right _ (List.mem_of_getElem? (i := 701) rfl)
set_option maxRecDepth 20000 in
theorem gt_666 : (.code yM_dayOfLoan cM_dayOfLoan 5 (some .int) : Cond) ∈ lw_tbl := List.mem_append_right _ (List.mem_of_getElem? (i := 702) rfl)
set_option maxRecDepth 20000 in
theorem gt_667 : (.methodLink RM 175 yM_billedOn : Cond) ∈ lw_tbl := List.mem_append_right _ (List.mem_of_getElem? (i := 703) rfl)
set_option maxRecDepth 20000 in
theorem gt_668 : (.instanceMethod yM_billedOn : Cond) ∈ lw_tbl := List.mem_append_right _ (List.mem_of_getElem? (i := 705) rfl)
set_option maxRecDepth 20000 in
theorem gt_669 : (.code yM_billedOn cM_billedOn 5 (some .boolean) : Cond) ∈ lw_tbl := List.mem_append_right _ (List.mem_of_getElem? (i := 706) rfl)
set_option maxRecDepth 20000 in
theorem gt_670 : (.constantLong RM 179 (20) : Cond) ∈ lw_tbl := List.mem_append_right _ (List.mem_of_getElem? (i := 707) rfl)
set_option maxRecDepth 20000 in
theorem gt_671 : (.methodLink RM 181 yM_whichDue : Cond) ∈ lw_tbl := List.mem_append_right _ (List.mem_of_getElem? (i := 708) rfl)
set_option maxRecDepth 20000 in
theorem gt_672 : (.instanceMethod yM_whichDue : Cond) ∈ lw_tbl := List.mem_append_right _ (List.mem_of_getElem? (i := 710) rfl)
set_option maxRecDepth 20000 in
theorem gt_673 : (.code yM_whichDue cM_whichDue 3 (some .int) : Cond) ∈ lw_tbl := List.mem_append_right _ (List.mem_of_getElem? (i := 711) rfl)
set_option maxRecDepth 20000 in
theorem gt_674 : (.methodLink RM 184 yM_accrue : Cond) ∈ lw_tbl := List.mem_append_right _ (List.mem_of_getElem? (i := 712) rfl)
set_option maxRecDepth 20000 in
theorem gt_675 : (.instanceMethod yM_accrue : Cond) ∈ lw_tbl := List.mem_append_right _ (List.mem_of_getElem? (i := 714) rfl)
set_option maxRecDepth 20000 in
theorem gt_676 : (.code yM_accrue cM_accrue 2 none : Cond) ∈ lw_tbl := List.mem_append_right _ (List.mem_of_getElem? (i := 715) rfl)
set_option maxRecDepth 20000 in
theorem gt_677 : (.methodLink RM 187 yM_makeBill : Cond) ∈ lw_tbl := List.mem_append_right _ (List.mem_of_getElem? (i := 716) rfl)
set_option maxRecDepth 20000 in
theorem gt_678 : (.instanceMethod yM_makeBill : Cond) ∈ lw_tbl := List.mem_append_right _ (List.mem_of_getElem? (i := 718) rfl)
set_option maxRecDepth 20000 in
theorem gt_679 : (.code yM_makeBill cM_makeBill 8 none : Cond) ∈ lw_tbl := List.mem_append_right _ (List.mem_of_getElem? (i := 719) rfl)
theorem gtc_16 : ∀ w ∈ GW_16, w ∈ lw_tbl := List.forall_mem_cons.mpr ⟨gt_640, List.forall_mem_cons.mpr ⟨gt_641, List.forall_mem_cons.mpr ⟨gt_642, List.forall_mem_cons.mpr ⟨gt_643, List.forall_mem_cons.mpr ⟨gt_644, List.forall_mem_cons.mpr ⟨gt_645, List.forall_mem_cons.mpr ⟨gt_646, List.forall_mem_cons.mpr ⟨gt_647, List.forall_mem_cons.mpr ⟨gt_648, List.forall_mem_cons.mpr ⟨gt_649, List.forall_mem_cons.mpr ⟨gt_650, List.forall_mem_cons.mpr ⟨gt_651, List.forall_mem_cons.mpr ⟨gt_652, List.forall_mem_cons.mpr ⟨gt_653, List.forall_mem_cons.mpr ⟨gt_654, List.forall_mem_cons.mpr ⟨gt_655, List.forall_mem_cons.mpr ⟨gt_656, List.forall_mem_cons.mpr ⟨gt_657, List.forall_mem_cons.mpr ⟨gt_658, List.forall_mem_cons.mpr ⟨gt_659, List.forall_mem_cons.mpr ⟨gt_660, List.forall_mem_cons.mpr ⟨gt_661, List.forall_mem_cons.mpr ⟨gt_662, List.forall_mem_cons.mpr ⟨gt_663, List.forall_mem_cons.mpr ⟨gt_664, List.forall_mem_cons.mpr ⟨gt_665, List.forall_mem_cons.mpr ⟨gt_666, List.forall_mem_cons.mpr ⟨gt_667, List.forall_mem_cons.mpr ⟨gt_668, List.forall_mem_cons.mpr ⟨gt_669, List.forall_mem_cons.mpr ⟨gt_670, List.forall_mem_cons.mpr ⟨gt_671, List.forall_mem_cons.mpr ⟨gt_672, List.forall_mem_cons.mpr ⟨gt_673, List.forall_mem_cons.mpr ⟨gt_674, List.forall_mem_cons.mpr ⟨gt_675, List.forall_mem_cons.mpr ⟨gt_676, List.forall_mem_cons.mpr ⟨gt_677, List.forall_mem_cons.mpr ⟨gt_678, List.forall_mem_cons.mpr ⟨gt_679, fun _ h => absurd h List.not_mem_nil⟩⟩⟩⟩⟩⟩⟩⟩⟩⟩⟩⟩⟩⟩⟩⟩⟩⟩⟩⟩⟩⟩⟩⟩⟩⟩⟩⟩⟩⟩⟩⟩⟩⟩⟩⟩⟩⟩⟩⟩
set_option maxRecDepth 20000 in
theorem gt_680 : (.methodLink RL 93 yM_pay : Cond) ∈ lw_tbl := List.mem_append_right _ (List.mem_of_getElem? (i := 720) rfl)
set_option maxRecDepth 20000 in
theorem gt_681 : (.instanceMethod yM_pay : Cond) ∈ lw_tbl := List.mem_append_right _ (List.mem_of_getElem? (i := 721) rfl)
set_option maxRecDepth 20000 in
theorem gt_682 : (.selects RM yM_pay yM_pay : Cond) ∈ lw_tbl := List.mem_append_right _ (List.mem_of_getElem? (i := 722) rfl)
set_option maxRecDepth 20000 in
theorem gt_683 : (.code yM_pay cM_pay 7 (some .int) : Cond) ∈ lw_tbl := List.mem_append_right _ (List.mem_of_getElem? (i := 723) rfl)
set_option maxRecDepth 20000 in
theorem gt_684 : (.constant RM 193 (200000000) : Cond) ∈ lw_tbl := List.mem_append_right _ (List.mem_of_getElem? (i := 724) rfl)
set_option maxRecDepth 20000 in
theorem gt_685 : (.methodLink RL 96 yM_part : Cond) ∈ lw_tbl := List.mem_append_right _ (List.mem_of_getElem? (i := 725) rfl)
set_option maxRecDepth 20000 in
theorem gt_686 : (.instanceMethod yM_part : Cond) ∈ lw_tbl := List.mem_append_right _ (List.mem_of_getElem? (i := 726) rfl)
set_option maxRecDepth 20000 in
theorem gt_687 : (.selects RM yM_part yM_part : Cond) ∈ lw_tbl := List.mem_append_right _ (List.mem_of_getElem? (i := 727) rfl)
set_option maxRecDepth 20000 in
theorem gt_688 : (.code yM_part cM_part 3 (some .int) : Cond) ∈ lw_tbl := List.mem_append_right _ (List.mem_of_getElem? (i := 728) rfl)
set_option maxRecDepth 20000 in
theorem gt_689 : (.methodLink RL 103 yM_due : Cond) ∈ lw_tbl := List.mem_append_right _ (List.mem_of_getElem? (i := 729) rfl)
set_option maxRecDepth 20000 in
theorem gt_690 : (.instanceMethod yM_due : Cond) ∈ lw_tbl := List.mem_append_right _ (List.mem_of_getElem? (i := 730) rfl)
set_option maxRecDepth 20000 in
theorem gt_691 : (.selects RM yM_due yM_due : Cond) ∈ lw_tbl := List.mem_append_right _ (List.mem_of_getElem? (i := 731) rfl)
set_option maxRecDepth 20000 in
theorem gt_692 : (.code yM_due cM_due 3 (some .int) : Cond) ∈ lw_tbl := List.mem_append_right _ (List.mem_of_getElem? (i := 732) rfl)
set_option maxRecDepth 20000 in
theorem gt_693 : (.methodLink RL 106 yM_principal : Cond) ∈ lw_tbl := List.mem_append_right _ (List.mem_of_getElem? (i := 733) rfl)
set_option maxRecDepth 20000 in
theorem gt_694 : (.instanceMethod yM_principal : Cond) ∈ lw_tbl := List.mem_append_right _ (List.mem_of_getElem? (i := 734) rfl)
set_option maxRecDepth 20000 in
theorem gt_695 : (.selects RM yM_principal yM_principal : Cond) ∈ lw_tbl := List.mem_append_right _ (List.mem_of_getElem? (i := 735) rfl)
set_option maxRecDepth 20000 in
theorem gt_696 : (.code yM_principal cM_principal 3 (some .int) : Cond) ∈ lw_tbl := List.mem_append_right _ (List.mem_of_getElem? (i := 736) rfl)
set_option maxRecDepth 20000 in
theorem gt_697 : (.methodLink RM 194 yM_at : Cond) ∈ lw_tbl := List.mem_append_right _ (List.mem_of_getElem? (i := 737) rfl)
set_option maxRecDepth 20000 in
theorem gt_698 : (.instanceMethod yM_at : Cond) ∈ lw_tbl := List.mem_append_right _ (List.mem_of_getElem? (i := 739) rfl)
set_option maxRecDepth 20000 in
theorem gt_699 : (.code yM_at cM_at 2 (some .int) : Cond) ∈ lw_tbl := List.mem_append_right _ (List.mem_of_getElem? (i := 740) rfl)
set_option maxRecDepth 20000 in
theorem gt_700 : (.methodLink RM 197 yM_seen : Cond) ∈ lw_tbl := List.mem_append_right _ (List.mem_of_getElem? (i := 741) rfl)
set_option maxRecDepth 20000 in
theorem gt_701 : (.instanceMethod yM_seen : Cond) ∈ lw_tbl := List.mem_append_right _ (List.mem_of_getElem? (i := 743) rfl)
set_option maxRecDepth 20000 in
theorem gt_702 : (.code yM_seen cM_seen 3 (some .int) : Cond) ∈ lw_tbl := List.mem_append_right _ (List.mem_of_getElem? (i := 744) rfl)
set_option maxRecDepth 20000 in
theorem gt_703 : (.methodLink RL 109 yM_level : Cond) ∈ lw_tbl := List.mem_append_right _ (List.mem_of_getElem? (i := 745) rfl)
set_option maxRecDepth 20000 in
theorem gt_704 : (.instanceMethod yM_level : Cond) ∈ lw_tbl := List.mem_append_right _ (List.mem_of_getElem? (i := 746) rfl)
set_option maxRecDepth 20000 in
theorem gt_705 : (.selects RM yM_level yM_level : Cond) ∈ lw_tbl := List.mem_append_right _ (List.mem_of_getElem? (i := 747) rfl)
set_option maxRecDepth 20000 in
theorem gt_706 : (.code yM_level cM_level 3 (some .int) : Cond) ∈ lw_tbl := List.mem_append_right _ (List.mem_of_getElem? (i := 748) rfl)
set_option maxRecDepth 20000 in
theorem gt_707 : (.methodLink RL 112 yM_accrued : Cond) ∈ lw_tbl := List.mem_append_right _ (List.mem_of_getElem? (i := 749) rfl)
set_option maxRecDepth 20000 in
theorem gt_708 : (.instanceMethod yM_accrued : Cond) ∈ lw_tbl := List.mem_append_right _ (List.mem_of_getElem? (i := 750) rfl)
set_option maxRecDepth 20000 in
theorem gt_709 : (.selects RM yM_accrued yM_accrued : Cond) ∈ lw_tbl := List.mem_append_right _ (List.mem_of_getElem? (i := 751) rfl)
set_option maxRecDepth 20000 in
theorem gt_710 : (.code yM_accrued cM_accrued 3 (some .int) : Cond) ∈ lw_tbl := List.mem_append_right _ (List.mem_of_getElem? (i := 752) rfl)
set_option maxRecDepth 20000 in
theorem gt_711 : (.methodLink RL 115 yM_owed : Cond) ∈ lw_tbl := List.mem_append_right _ (List.mem_of_getElem? (i := 753) rfl)
set_option maxRecDepth 20000 in
theorem gt_712 : (.instanceMethod yM_owed : Cond) ∈ lw_tbl := List.mem_append_right _ (List.mem_of_getElem? (i := 754) rfl)
set_option maxRecDepth 20000 in
theorem gt_713 : (.selects RM yM_owed yM_owed : Cond) ∈ lw_tbl := List.mem_append_right _ (List.mem_of_getElem? (i := 755) rfl)
set_option maxRecDepth 20000 in
theorem gt_714 : (.code yM_owed cM_owed 3 (some .int) : Cond) ∈ lw_tbl := List.mem_append_right _ (List.mem_of_getElem? (i := 756) rfl)
set_option maxRecDepth 20000 in
theorem gt_715 : (.methodLink RL 118 yM_escrow : Cond) ∈ lw_tbl := List.mem_append_right _ (List.mem_of_getElem? (i := 757) rfl)
set_option maxRecDepth 20000 in
theorem gt_716 : (.instanceMethod yM_escrow : Cond) ∈ lw_tbl := List.mem_append_right _ (List.mem_of_getElem? (i := 758) rfl)
set_option maxRecDepth 20000 in
theorem gt_717 : (.selects RM yM_escrow yM_escrow : Cond) ∈ lw_tbl := List.mem_append_right _ (List.mem_of_getElem? (i := 759) rfl)
set_option maxRecDepth 20000 in
theorem gt_718 : (.code yM_escrow cM_escrow 3 (some .int) : Cond) ∈ lw_tbl := List.mem_append_right _ (List.mem_of_getElem? (i := 760) rfl)
set_option maxRecDepth 20000 in
theorem gt_719 : (.methodLink RL 121 yM_deposit : Cond) ∈ lw_tbl := List.mem_append_right _ (List.mem_of_getElem? (i := 761) rfl)
theorem gtc_17 : ∀ w ∈ GW_17, w ∈ lw_tbl := List.forall_mem_cons.mpr ⟨gt_680, List.forall_mem_cons.mpr ⟨gt_681, List.forall_mem_cons.mpr ⟨gt_682, List.forall_mem_cons.mpr ⟨gt_683, List.forall_mem_cons.mpr ⟨gt_684, List.forall_mem_cons.mpr ⟨gt_685, List.forall_mem_cons.mpr ⟨gt_686, List.forall_mem_cons.mpr ⟨gt_687, List.forall_mem_cons.mpr ⟨gt_688, List.forall_mem_cons.mpr ⟨gt_689, List.forall_mem_cons.mpr ⟨gt_690, List.forall_mem_cons.mpr ⟨gt_691, List.forall_mem_cons.mpr ⟨gt_692, List.forall_mem_cons.mpr ⟨gt_693, List.forall_mem_cons.mpr ⟨gt_694, List.forall_mem_cons.mpr ⟨gt_695, List.forall_mem_cons.mpr ⟨gt_696, List.forall_mem_cons.mpr ⟨gt_697, List.forall_mem_cons.mpr ⟨gt_698, List.forall_mem_cons.mpr ⟨gt_699, List.forall_mem_cons.mpr ⟨gt_700, List.forall_mem_cons.mpr ⟨gt_701, List.forall_mem_cons.mpr ⟨gt_702, List.forall_mem_cons.mpr ⟨gt_703, List.forall_mem_cons.mpr ⟨gt_704, List.forall_mem_cons.mpr ⟨gt_705, List.forall_mem_cons.mpr ⟨gt_706, List.forall_mem_cons.mpr ⟨gt_707, List.forall_mem_cons.mpr ⟨gt_708, List.forall_mem_cons.mpr ⟨gt_709, List.forall_mem_cons.mpr ⟨gt_710, List.forall_mem_cons.mpr ⟨gt_711, List.forall_mem_cons.mpr ⟨gt_712, List.forall_mem_cons.mpr ⟨gt_713, List.forall_mem_cons.mpr ⟨gt_714, List.forall_mem_cons.mpr ⟨gt_715, List.forall_mem_cons.mpr ⟨gt_716, List.forall_mem_cons.mpr ⟨gt_717, List.forall_mem_cons.mpr ⟨gt_718, List.forall_mem_cons.mpr ⟨gt_719, fun _ h => absurd h List.not_mem_nil⟩⟩⟩⟩⟩⟩⟩⟩⟩⟩⟩⟩⟩⟩⟩⟩⟩⟩⟩⟩⟩⟩⟩⟩⟩⟩⟩⟩⟩⟩⟩⟩⟩⟩⟩⟩⟩⟩⟩⟩
set_option maxRecDepth 20000 in
theorem gt_720 : (.instanceMethod yM_deposit : Cond) ∈ lw_tbl := List.mem_append_right _ (List.mem_of_getElem? (i := 762) rfl)
set_option maxRecDepth 20000 in
theorem gt_721 : (.selects RM yM_deposit yM_deposit : Cond) ∈ lw_tbl := List.mem_append_right _ (List.mem_of_getElem? (i := 763) rfl)
set_option maxRecDepth 20000 in
theorem gt_722 : (.code yM_deposit cM_deposit 3 (some .int) : Cond) ∈ lw_tbl := List.mem_append_right _ (List.mem_of_getElem? (i := 764) rfl)
set_option maxRecDepth 20000 in
theorem gt_723 : (.methodLink RL 124 yM_bills : Cond) ∈ lw_tbl := List.mem_append_right _ (List.mem_of_getElem? (i := 765) rfl)
set_option maxRecDepth 20000 in
theorem gt_724 : (.instanceMethod yM_bills : Cond) ∈ lw_tbl := List.mem_append_right _ (List.mem_of_getElem? (i := 766) rfl)
set_option maxRecDepth 20000 in
theorem gt_725 : (.selects RM yM_bills yM_bills : Cond) ∈ lw_tbl := List.mem_append_right _ (List.mem_of_getElem? (i := 767) rfl)
set_option maxRecDepth 20000 in
theorem gt_726 : (.code yM_bills cM_bills 3 (some .int) : Cond) ∈ lw_tbl := List.mem_append_right _ (List.mem_of_getElem? (i := 768) rfl)
set_option maxRecDepth 20000 in
theorem gt_727 : (.methodLink RL 128 yM_bill : Cond) ∈ lw_tbl := List.mem_append_right _ (List.mem_of_getElem? (i := 769) rfl)
set_option maxRecDepth 20000 in
theorem gt_728 : (.instanceMethod yM_bill : Cond) ∈ lw_tbl := List.mem_append_right _ (List.mem_of_getElem? (i := 770) rfl)
set_option maxRecDepth 20000 in
theorem gt_729 : (.selects RM yM_bill yM_bill : Cond) ∈ lw_tbl := List.mem_append_right _ (List.mem_of_getElem? (i := 771) rfl)
set_option maxRecDepth 20000 in
theorem gt_730 : (.code yM_bill cM_bill 5 (some .int) : Cond) ∈ lw_tbl := List.mem_append_right _ (List.mem_of_getElem? (i := 772) rfl)
set_option maxRecDepth 20000 in
theorem gt_731 : (.arrayClass .long : Cond) ∈ lw_tbl := List.mem_append_right _ (List.mem_of_getElem? (i := 773) rfl)
set_option maxRecDepth 20000 in
theorem gt_732 : ((Jvm.Cond.sameMethod "java/lang/Throwable" "java/lang/Throwable" "fillInStackTrace" "(I)Ljava/lang/Throwable;") : Cond) ∈ lw_tbl := List.mem_append_right _ (List.mem_of_getElem? (i := 774) rfl)
set_option maxRecDepth 20000 in
theorem gt_733 : (.selects "java/lang/Throwable" ⟨"java/lang/Throwable", "fillInStackTrace", "(I)Ljava/lang/Throwable;"⟩ ⟨"java/lang/Throwable", "fillInStackTrace", "(I)Ljava/lang/Throwable;"⟩ : Cond) ∈ lw_tbl := List.mem_append_left _ (List.mem_of_getElem? (i := 0) rfl)
set_option maxRecDepth 20000 in
theorem gt_734 : (.selects RN yN_layOutSpans yN_layOutSpans : Cond) ∈ lw_tbl := List.mem_append_left _ (List.mem_of_getElem? (i := 1) rfl)
set_option maxRecDepth 20000 in
theorem gt_735 : (.selects RN yN_leastLevel yN_leastLevel : Cond) ∈ lw_tbl := List.mem_append_left _ (List.mem_of_getElem? (i := 2) rfl)
set_option maxRecDepth 20000 in
theorem gt_736 : (.selects RN yN_leftInTheEnd yN_leftInTheEnd : Cond) ∈ lw_tbl := List.mem_append_left _ (List.mem_of_getElem? (i := 3) rfl)
set_option maxRecDepth 20000 in
theorem gt_737 : (.selects RD yD_find yD_find : Cond) ∈ lw_tbl := List.mem_append_left _ (List.mem_of_getElem? (i := 4) rfl)
set_option maxRecDepth 20000 in
theorem gt_738 : (.selects RN yN_addLateFee yN_addLateFee : Cond) ∈ lw_tbl := List.mem_append_left _ (List.mem_of_getElem? (i := 5) rfl)
set_option maxRecDepth 20000 in
theorem gt_739 : (.selects RN yN_accrue yN_accrue : Cond) ∈ lw_tbl := List.mem_append_left _ (List.mem_of_getElem? (i := 6) rfl)
set_option maxRecDepth 20000 in
theorem gt_740 : (.selects RN yN_makeBill yN_makeBill : Cond) ∈ lw_tbl := List.mem_append_left _ (List.mem_of_getElem? (i := 7) rfl)
set_option maxRecDepth 20000 in
theorem gt_741 : (.selects RN yN_partToBill yN_partToBill : Cond) ∈ lw_tbl := List.mem_append_left _ (List.mem_of_getElem? (i := 8) rfl)
set_option maxRecDepth 20000 in
theorem gt_742 : (.selects RN yN_splitPayment yN_splitPayment : Cond) ∈ lw_tbl := List.mem_append_left _ (List.mem_of_getElem? (i := 9) rfl)
set_option maxRecDepth 20000 in
theorem gt_743 : (.selects RM yM_find yM_find : Cond) ∈ lw_tbl := List.mem_append_left _ (List.mem_of_getElem? (i := 10) rfl)
set_option maxRecDepth 20000 in
theorem gt_744 : (.selects RM yM_interestOn yM_interestOn : Cond) ∈ lw_tbl := List.mem_append_left _ (List.mem_of_getElem? (i := 11) rfl)
set_option maxRecDepth 20000 in
theorem gt_745 : (.selects RM yM_span yM_span : Cond) ∈ lw_tbl := List.mem_append_left _ (List.mem_of_getElem? (i := 12) rfl)
set_option maxRecDepth 20000 in
theorem gt_746 : (.selects RM yM_reckon yM_reckon : Cond) ∈ lw_tbl := List.mem_append_left _ (List.mem_of_getElem? (i := 13) rfl)
set_option maxRecDepth 20000 in
theorem gt_747 : (.selects RM yM_firstBehind yM_firstBehind : Cond) ∈ lw_tbl := List.mem_append_left _ (List.mem_of_getElem? (i := 14) rfl)
set_option maxRecDepth 20000 in
theorem gt_748 : (.selects RM yM_monthsSince yM_monthsSince : Cond) ∈ lw_tbl := List.mem_append_left _ (List.mem_of_getElem? (i := 15) rfl)
set_option maxRecDepth 20000 in
theorem gt_749 : (.selects RM yM_dueDay yM_dueDay : Cond) ∈ lw_tbl := List.mem_append_left _ (List.mem_of_getElem? (i := 16) rfl)
set_option maxRecDepth 20000 in
theorem gt_750 : (.selects RM yM_leaves yM_leaves : Cond) ∈ lw_tbl := List.mem_append_left _ (List.mem_of_getElem? (i := 17) rfl)
set_option maxRecDepth 20000 in
theorem gt_751 : (.selects RM yM_own yM_own : Cond) ∈ lw_tbl := List.mem_append_left _ (List.mem_of_getElem? (i := 18) rfl)
set_option maxRecDepth 20000 in
theorem gt_752 : (.selects RM yM_none yM_none : Cond) ∈ lw_tbl := List.mem_append_left _ (List.mem_of_getElem? (i := 19) rfl)
set_option maxRecDepth 20000 in
theorem gt_753 : (.selects RM yM_dayOfLoan yM_dayOfLoan : Cond) ∈ lw_tbl := List.mem_append_left _ (List.mem_of_getElem? (i := 20) rfl)
set_option maxRecDepth 20000 in
theorem gt_754 : (.selects RM yM_billedOn yM_billedOn : Cond) ∈ lw_tbl := List.mem_append_left _ (List.mem_of_getElem? (i := 21) rfl)
set_option maxRecDepth 20000 in
theorem gt_755 : (.selects RM yM_whichDue yM_whichDue : Cond) ∈ lw_tbl := List.mem_append_left _ (List.mem_of_getElem? (i := 22) rfl)
set_option maxRecDepth 20000 in
theorem gt_756 : (.selects RM yM_accrue yM_accrue : Cond) ∈ lw_tbl := List.mem_append_left _ (List.mem_of_getElem? (i := 23) rfl)
set_option maxRecDepth 20000 in
theorem gt_757 : (.selects RM yM_makeBill yM_makeBill : Cond) ∈ lw_tbl := List.mem_append_left _ (List.mem_of_getElem? (i := 24) rfl)
set_option maxRecDepth 20000 in
theorem gt_758 : (.selects RM yM_at yM_at : Cond) ∈ lw_tbl := List.mem_append_left _ (List.mem_of_getElem? (i := 25) rfl)
set_option maxRecDepth 20000 in
theorem gt_759 : (.selects RM yM_seen yM_seen : Cond) ∈ lw_tbl := List.mem_append_left _ (List.mem_of_getElem? (i := 26) rfl)
theorem gtc_18 : ∀ w ∈ GW_18, w ∈ lw_tbl := List.forall_mem_cons.mpr ⟨gt_720, List.forall_mem_cons.mpr ⟨gt_721, List.forall_mem_cons.mpr ⟨gt_722, List.forall_mem_cons.mpr ⟨gt_723, List.forall_mem_cons.mpr ⟨gt_724, List.forall_mem_cons.mpr ⟨gt_725, List.forall_mem_cons.mpr ⟨gt_726, List.forall_mem_cons.mpr ⟨gt_727, List.forall_mem_cons.mpr ⟨gt_728, List.forall_mem_cons.mpr ⟨gt_729, List.forall_mem_cons.mpr ⟨gt_730, List.forall_mem_cons.mpr ⟨gt_731, List.forall_mem_cons.mpr ⟨gt_732, List.forall_mem_cons.mpr ⟨gt_733, List.forall_mem_cons.mpr ⟨gt_734, List.forall_mem_cons.mpr ⟨gt_735, List.forall_mem_cons.mpr ⟨gt_736, List.forall_mem_cons.mpr ⟨gt_737, List.forall_mem_cons.mpr ⟨gt_738, List.forall_mem_cons.mpr ⟨gt_739, List.forall_mem_cons.mpr ⟨gt_740, List.forall_mem_cons.mpr ⟨gt_741, List.forall_mem_cons.mpr ⟨gt_742, List.forall_mem_cons.mpr ⟨gt_743, List.forall_mem_cons.mpr ⟨gt_744, List.forall_mem_cons.mpr ⟨gt_745, List.forall_mem_cons.mpr ⟨gt_746, List.forall_mem_cons.mpr ⟨gt_747, List.forall_mem_cons.mpr ⟨gt_748, List.forall_mem_cons.mpr ⟨gt_749, List.forall_mem_cons.mpr ⟨gt_750, List.forall_mem_cons.mpr ⟨gt_751, List.forall_mem_cons.mpr ⟨gt_752, List.forall_mem_cons.mpr ⟨gt_753, List.forall_mem_cons.mpr ⟨gt_754, List.forall_mem_cons.mpr ⟨gt_755, List.forall_mem_cons.mpr ⟨gt_756, List.forall_mem_cons.mpr ⟨gt_757, List.forall_mem_cons.mpr ⟨gt_758, List.forall_mem_cons.mpr ⟨gt_759, fun _ h => absurd h List.not_mem_nil⟩⟩⟩⟩⟩⟩⟩⟩⟩⟩⟩⟩⟩⟩⟩⟩⟩⟩⟩⟩⟩⟩⟩⟩⟩⟩⟩⟩⟩⟩⟩⟩⟩⟩⟩⟩⟩⟩⟩⟩
theorem GW_tbl : ∀ w ∈ GW, w ∈ lw_tbl := List.forall_mem_append.mpr ⟨gtc_0, List.forall_mem_append.mpr ⟨gtc_1, List.forall_mem_append.mpr ⟨gtc_2, List.forall_mem_append.mpr ⟨gtc_3, List.forall_mem_append.mpr ⟨gtc_4, List.forall_mem_append.mpr ⟨gtc_5, List.forall_mem_append.mpr ⟨gtc_6, List.forall_mem_append.mpr ⟨gtc_7, List.forall_mem_append.mpr ⟨gtc_8, List.forall_mem_append.mpr ⟨gtc_9, List.forall_mem_append.mpr ⟨gtc_10, List.forall_mem_append.mpr ⟨gtc_11, List.forall_mem_append.mpr ⟨gtc_12, List.forall_mem_append.mpr ⟨gtc_13, List.forall_mem_append.mpr ⟨gtc_14, List.forall_mem_append.mpr ⟨gtc_15, List.forall_mem_append.mpr ⟨gtc_16, List.forall_mem_append.mpr ⟨gtc_17, gtc_18⟩⟩⟩⟩⟩⟩⟩⟩⟩⟩⟩⟩⟩⟩⟩⟩⟩⟩
theorem GW_good : ∀ w ∈ GW, goodWord w = true := List.forall_mem_append.mpr ⟨List.all_eq_true.mp GW_0_good, List.forall_mem_append.mpr ⟨List.all_eq_true.mp GW_1_good, List.forall_mem_append.mpr ⟨List.all_eq_true.mp GW_2_good, List.forall_mem_append.mpr ⟨List.all_eq_true.mp GW_3_good, List.forall_mem_append.mpr ⟨List.all_eq_true.mp GW_4_good, List.forall_mem_append.mpr ⟨List.all_eq_true.mp GW_5_good, List.forall_mem_append.mpr ⟨List.all_eq_true.mp GW_6_good, List.forall_mem_append.mpr ⟨List.all_eq_true.mp GW_7_good, List.forall_mem_append.mpr ⟨List.all_eq_true.mp GW_8_good, List.forall_mem_append.mpr ⟨List.all_eq_true.mp GW_9_good, List.forall_mem_append.mpr ⟨List.all_eq_true.mp GW_10_good, List.forall_mem_append.mpr ⟨List.all_eq_true.mp GW_11_good, List.forall_mem_append.mpr ⟨List.all_eq_true.mp GW_12_good, List.forall_mem_append.mpr ⟨List.all_eq_true.mp GW_13_good, List.forall_mem_append.mpr ⟨List.all_eq_true.mp GW_14_good, List.forall_mem_append.mpr ⟨List.all_eq_true.mp GW_15_good, List.forall_mem_append.mpr ⟨List.all_eq_true.mp GW_16_good, List.forall_mem_append.mpr ⟨List.all_eq_true.mp GW_17_good, (List.all_eq_true.mp GW_18_good)⟩⟩⟩⟩⟩⟩⟩⟩⟩⟩⟩⟩⟩⟩⟩⟩⟩⟩
