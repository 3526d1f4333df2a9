section
-- ===== PART A: goes FIRST, ahead of the names: the tables' words, and 'selects' of the private methods out of them =====
/-- a private method of a class that the tables say can be made, by its rows of tables_1 -/
def lw_okq (q : MethodName × Nat) : Prop := (q.1.cls ≠ "java/lang/invoke/MethodHandle" ∧ q.1.cls ≠ "java/lang/invoke/VarHandle") ∧ Cond.instantiable q.1.cls q.2 ∈ tables_1 ∧ Cond.privateMethod q.1 ∈ tables_1 ∧ Cond.instanceMethod q.1 ∈ tables_1
theorem lw_p0 : lw_okq (⟨"java/lang/Throwable", "fillInStackTrace", "(I)Ljava/lang/Throwable;"⟩, 6) := ⟨⟨by decide +kernel, by decide +kernel⟩, List.mem_of_getElem? (i := 105) (by decide +kernel), List.mem_of_getElem? (i := 103) (by decide +kernel), List.mem_of_getElem? (i := 104) (by decide +kernel)⟩
theorem lw_p1 : lw_okq (⟨"LoanDesk$Loan", "layOutSpans", "(I)I"⟩, 13) := ⟨⟨by decide +kernel, by decide +kernel⟩, List.mem_of_getElem? (i := 179) (by decide +kernel), List.mem_of_getElem? (i := 281) (by decide +kernel), List.mem_of_getElem? (i := 282) (by decide +kernel)⟩
theorem lw_p2 : lw_okq (⟨"LoanDesk$Loan", "leastLevel", "(II)I"⟩, 13) := ⟨⟨by decide +kernel, by decide +kernel⟩, List.mem_of_getElem? (i := 179) (by decide +kernel), List.mem_of_getElem? (i := 295) (by decide +kernel), List.mem_of_getElem? (i := 296) (by decide +kernel)⟩
theorem lw_p3 : lw_okq (⟨"LoanDesk$Loan", "leftInTheEnd", "(III)I"⟩, 13) := ⟨⟨by decide +kernel, by decide +kernel⟩, List.mem_of_getElem? (i := 179) (by decide +kernel), List.mem_of_getElem? (i := 311) (by decide +kernel), List.mem_of_getElem? (i := 312) (by decide +kernel)⟩
theorem lw_p4 : lw_okq (⟨"LoanDesk", "find", "(I)LLoanDesk$Loan;"⟩, 3) := ⟨⟨by decide +kernel, by decide +kernel⟩, List.mem_of_getElem? (i := 19) (by decide +kernel), List.mem_of_getElem? (i := 324) (by decide +kernel), List.mem_of_getElem? (i := 325) (by decide +kernel)⟩
theorem lw_p5 : lw_okq (⟨"LoanDesk$Loan", "addLateFee", "()V"⟩, 13) := ⟨⟨by decide +kernel, by decide +kernel⟩, List.mem_of_getElem? (i := 179) (by decide +kernel), List.mem_of_getElem? (i := 366) (by decide +kernel), List.mem_of_getElem? (i := 367) (by decide +kernel)⟩
theorem lw_p6 : lw_okq (⟨"LoanDesk$Loan", "accrue", "(I)V"⟩, 13) := ⟨⟨by decide +kernel, by decide +kernel⟩, List.mem_of_getElem? (i := 179) (by decide +kernel), List.mem_of_getElem? (i := 379) (by decide +kernel), List.mem_of_getElem? (i := 380) (by decide +kernel)⟩
theorem lw_p7 : lw_okq (⟨"LoanDesk$Loan", "makeBill", "(I)V"⟩, 13) := ⟨⟨by decide +kernel, by decide +kernel⟩, List.mem_of_getElem? (i := 179) (by decide +kernel), List.mem_of_getElem? (i := 387) (by decide +kernel), List.mem_of_getElem? (i := 388) (by decide +kernel)⟩
theorem lw_p8 : lw_okq (⟨"LoanDesk$Loan", "partToBill", "(I)I"⟩, 13) := ⟨⟨by decide +kernel, by decide +kernel⟩, List.mem_of_getElem? (i := 179) (by decide +kernel), List.mem_of_getElem? (i := 391) (by decide +kernel), List.mem_of_getElem? (i := 392) (by decide +kernel)⟩
theorem lw_p9 : lw_okq (⟨"LoanDesk$Loan", "splitPayment", "(I)V"⟩, 13) := ⟨⟨by decide +kernel, by decide +kernel⟩, List.mem_of_getElem? (i := 179) (by decide +kernel), List.mem_of_getElem? (i := 412) (by decide +kernel), List.mem_of_getElem? (i := 413) (by decide +kernel)⟩
theorem lw_p10 : lw_okq (⟨"LoanDeskModel", "find", "(I)V"⟩, 28) := ⟨⟨by decide +kernel, by decide +kernel⟩, List.mem_of_getElem? (i := 514) (by decide +kernel), List.mem_of_getElem? (i := 614) (by decide +kernel), List.mem_of_getElem? (i := 615) (by decide +kernel)⟩
theorem lw_p11 : lw_okq (⟨"LoanDeskModel", "interestOn", "(IIIIII)I"⟩, 28) := ⟨⟨by decide +kernel, by decide +kernel⟩, List.mem_of_getElem? (i := 514) (by decide +kernel), List.mem_of_getElem? (i := 632) (by decide +kernel), List.mem_of_getElem? (i := 633) (by decide +kernel)⟩
theorem lw_p12 : lw_okq (⟨"LoanDeskModel", "span", "(III)J"⟩, 28) := ⟨⟨by decide +kernel, by decide +kernel⟩, List.mem_of_getElem? (i := 514) (by decide +kernel), List.mem_of_getElem? (i := 636) (by decide +kernel), List.mem_of_getElem? (i := 637) (by decide +kernel)⟩
theorem lw_p13 : lw_okq (⟨"LoanDeskModel", "reckon", "(II)V"⟩, 28) := ⟨⟨by decide +kernel, by decide +kernel⟩, List.mem_of_getElem? (i := 514) (by decide +kernel), List.mem_of_getElem? (i := 656) (by decide +kernel), List.mem_of_getElem? (i := 657) (by decide +kernel)⟩
theorem lw_p14 : lw_okq (⟨"LoanDeskModel", "firstBehind", "(I)I"⟩, 28) := ⟨⟨by decide +kernel, by decide +kernel⟩, List.mem_of_getElem? (i := 514) (by decide +kernel), List.mem_of_getElem? (i := 660) (by decide +kernel), List.mem_of_getElem? (i := 661) (by decide +kernel)⟩
theorem lw_p15 : lw_okq (⟨"LoanDeskModel", "monthsSince", "(I)I"⟩, 28) := ⟨⟨by decide +kernel, by decide +kernel⟩, List.mem_of_getElem? (i := 514) (by decide +kernel), List.mem_of_getElem? (i := 664) (by decide +kernel), List.mem_of_getElem? (i := 665) (by decide +kernel)⟩
def lw_privs_1 : List (MethodName × Nat) := [(⟨"java/lang/Throwable", "fillInStackTrace", "(I)Ljava/lang/Throwable;"⟩, 6), (⟨"LoanDesk$Loan", "layOutSpans", "(I)I"⟩, 13), (⟨"LoanDesk$Loan", "leastLevel", "(II)I"⟩, 13), (⟨"LoanDesk$Loan", "leftInTheEnd", "(III)I"⟩, 13), (⟨"LoanDesk", "find", "(I)LLoanDesk$Loan;"⟩, 3), (⟨"LoanDesk$Loan", "addLateFee", "()V"⟩, 13), (⟨"LoanDesk$Loan", "accrue", "(I)V"⟩, 13), (⟨"LoanDesk$Loan", "makeBill", "(I)V"⟩, 13), (⟨"LoanDesk$Loan", "partToBill", "(I)I"⟩, 13), (⟨"LoanDesk$Loan", "splitPayment", "(I)V"⟩, 13), (⟨"LoanDeskModel", "find", "(I)V"⟩, 28), (⟨"LoanDeskModel", "interestOn", "(IIIIII)I"⟩, 28), (⟨"LoanDeskModel", "span", "(III)J"⟩, 28), (⟨"LoanDeskModel", "reckon", "(II)V"⟩, 28), (⟨"LoanDeskModel", "firstBehind", "(I)I"⟩, 28), (⟨"LoanDeskModel", "monthsSince", "(I)I"⟩, 28)]
theorem lw_r1 : ∀ q ∈ lw_privs_1, lw_okq q := List.forall_mem_cons.mpr ⟨lw_p0, List.forall_mem_cons.mpr ⟨lw_p1, List.forall_mem_cons.mpr ⟨lw_p2, List.forall_mem_cons.mpr ⟨lw_p3, List.forall_mem_cons.mpr ⟨lw_p4, List.forall_mem_cons.mpr ⟨lw_p5, List.forall_mem_cons.mpr ⟨lw_p6, List.forall_mem_cons.mpr ⟨lw_p7, List.forall_mem_cons.mpr ⟨lw_p8, List.forall_mem_cons.mpr ⟨lw_p9, List.forall_mem_cons.mpr ⟨lw_p10, List.forall_mem_cons.mpr ⟨lw_p11, List.forall_mem_cons.mpr ⟨lw_p12, List.forall_mem_cons.mpr ⟨lw_p13, List.forall_mem_cons.mpr ⟨lw_p14, List.forall_mem_cons.mpr ⟨lw_p15, fun _ h => absurd h List.not_mem_nil⟩⟩⟩⟩⟩⟩⟩⟩⟩⟩⟩⟩⟩⟩⟩⟩
theorem lw_p16 : lw_okq (⟨"LoanDeskModel", "dueDay", "(II)I"⟩, 28) := ⟨⟨by decide +kernel, by decide +kernel⟩, List.mem_of_getElem? (i := 514) (by decide +kernel), List.mem_of_getElem? (i := 668) (by decide +kernel), List.mem_of_getElem? (i := 669) (by decide +kernel)⟩
theorem lw_p17 : lw_okq (⟨"LoanDeskModel", "leaves", "(IIII)Z"⟩, 28) := ⟨⟨by decide +kernel, by decide +kernel⟩, List.mem_of_getElem? (i := 514) (by decide +kernel), List.mem_of_getElem? (i := 676) (by decide +kernel), List.mem_of_getElem? (i := 677) (by decide +kernel)⟩
theorem lw_p18 : lw_okq (⟨"LoanDeskModel", "own", "(IIII)I"⟩, 28) := ⟨⟨by decide +kernel, by decide +kernel⟩, List.mem_of_getElem? (i := 514) (by decide +kernel), List.mem_of_getElem? (i := 680) (by decide +kernel), List.mem_of_getElem? (i := 681) (by decide +kernel)⟩
theorem lw_p19 : lw_okq (⟨"LoanDeskModel", "none", "(I)Z"⟩, 28) := ⟨⟨by decide +kernel, by decide +kernel⟩, List.mem_of_getElem? (i := 514) (by decide +kernel), List.mem_of_getElem? (i := 688) (by decide +kernel), List.mem_of_getElem? (i := 689) (by decide +kernel)⟩
theorem lw_p20 : lw_okq (⟨"LoanDeskModel", "dayOfLoan", "(I)I"⟩, 28) := ⟨⟨by decide +kernel, by decide +kernel⟩, List.mem_of_getElem? (i := 514) (by decide +kernel), List.mem_of_getElem? (i := 700) (by decide +kernel), List.mem_of_getElem? (i := 701) (by decide +kernel)⟩
theorem lw_p21 : lw_okq (⟨"LoanDeskModel", "billedOn", "(II)Z"⟩, 28) := ⟨⟨by decide +kernel, by decide +kernel⟩, List.mem_of_getElem? (i := 514) (by decide +kernel), List.mem_of_getElem? (i := 704) (by decide +kernel), List.mem_of_getElem? (i := 705) (by decide +kernel)⟩
theorem lw_p22 : lw_okq (⟨"LoanDeskModel", "whichDue", "(I)I"⟩, 28) := ⟨⟨by decide +kernel, by decide +kernel⟩, List.mem_of_getElem? (i := 514) (by decide +kernel), List.mem_of_getElem? (i := 709) (by decide +kernel), List.mem_of_getElem? (i := 710) (by decide +kernel)⟩
theorem lw_p23 : lw_okq (⟨"LoanDeskModel", "accrue", "(I)V"⟩, 28) := ⟨⟨by decide +kernel, by decide +kernel⟩, List.mem_of_getElem? (i := 514) (by decide +kernel), List.mem_of_getElem? (i := 713) (by decide +kernel), List.mem_of_getElem? (i := 714) (by decide +kernel)⟩
theorem lw_p24 : lw_okq (⟨"LoanDeskModel", "makeBill", "(II)V"⟩, 28) := ⟨⟨by decide +kernel, by decide +kernel⟩, List.mem_of_getElem? (i := 514) (by decide +kernel), List.mem_of_getElem? (i := 717) (by decide +kernel), List.mem_of_getElem? (i := 718) (by decide +kernel)⟩
theorem lw_p25 : lw_okq (⟨"LoanDeskModel", "at", "(I)I"⟩, 28) := ⟨⟨by decide +kernel, by decide +kernel⟩, List.mem_of_getElem? (i := 514) (by decide +kernel), List.mem_of_getElem? (i := 738) (by decide +kernel), List.mem_of_getElem? (i := 739) (by decide +kernel)⟩
theorem lw_p26 : lw_okq (⟨"LoanDeskModel", "seen", "(II)I"⟩, 28) := ⟨⟨by decide +kernel, by decide +kernel⟩, List.mem_of_getElem? (i := 514) (by decide +kernel), List.mem_of_getElem? (i := 742) (by decide +kernel), List.mem_of_getElem? (i := 743) (by decide +kernel)⟩
def lw_privs_2 : List (MethodName × Nat) := [(⟨"LoanDeskModel", "dueDay", "(II)I"⟩, 28), (⟨"LoanDeskModel", "leaves", "(IIII)Z"⟩, 28), (⟨"LoanDeskModel", "own", "(IIII)I"⟩, 28), (⟨"LoanDeskModel", "none", "(I)Z"⟩, 28), (⟨"LoanDeskModel", "dayOfLoan", "(I)I"⟩, 28), (⟨"LoanDeskModel", "billedOn", "(II)Z"⟩, 28), (⟨"LoanDeskModel", "whichDue", "(I)I"⟩, 28), (⟨"LoanDeskModel", "accrue", "(I)V"⟩, 28), (⟨"LoanDeskModel", "makeBill", "(II)V"⟩, 28), (⟨"LoanDeskModel", "at", "(I)I"⟩, 28), (⟨"LoanDeskModel", "seen", "(II)I"⟩, 28)]
theorem lw_r2 : ∀ q ∈ lw_privs_2, lw_okq q := List.forall_mem_cons.mpr ⟨lw_p16, List.forall_mem_cons.mpr ⟨lw_p17, List.forall_mem_cons.mpr ⟨lw_p18, List.forall_mem_cons.mpr ⟨lw_p19, List.forall_mem_cons.mpr ⟨lw_p20, List.forall_mem_cons.mpr ⟨lw_p21, List.forall_mem_cons.mpr ⟨lw_p22, List.forall_mem_cons.mpr ⟨lw_p23, List.forall_mem_cons.mpr ⟨lw_p24, List.forall_mem_cons.mpr ⟨lw_p25, List.forall_mem_cons.mpr ⟨lw_p26, fun _ h => absurd h List.not_mem_nil⟩⟩⟩⟩⟩⟩⟩⟩⟩⟩⟩
def lw_privs : List (MethodName × Nat) := lw_privs_1 ++ (lw_privs_2)
def lw_tbl : List Cond := k2_sels lw_privs ++ tables_1
theorem lw_privs_ok : ∀ q ∈ lw_privs, lw_okq q := by
  show ∀ q ∈ lw_privs_1 ++ (lw_privs_2), lw_okq q
  exact List.forall_mem_append.mpr ⟨lw_r1, lw_r2⟩
end
section
/-! ===== BEGIN words of one list among another's, by their places ===== -/
theorem goodIn_r {big : List Cond} (ws : List Cond) (ps : List Nat) (hp : ws = ps.filterMap (fun i => big[i]?)) (h : ws.all goodWord = true) : GoodIn big ws := by
  intro w hw
  have h1 := List.all_eq_true.mp h w hw
  rw [hp] at hw
  obtain ⟨i, -, hi⟩ := List.mem_filterMap.mp hw
  have hm : w ∈ big := by first | exact List.mem_of_getElem? hi | exact List.getElem?_mem hi
  exact ⟨hm, good_of_word h1⟩
theorem goodIn_app {big a b : List Cond} (ha : GoodIn big a) (hb : GoodIn big b) : GoodIn big (a ++ b) := fun w h => (List.mem_append.mp h).elim (ha w) (hb w)
theorem goodIn_ca {big a b : List Cond} {c : Cond} (ha : GoodIn big (c :: a)) (hb : GoodIn big b) : GoodIn big (c :: (a ++ b)) := fun w h => (List.mem_cons.mp h).elim (fun e => ha w (List.mem_cons.mpr (Or.inl e))) (fun h => (List.mem_append.mp h).elim (fun h => ha w (List.mem_cons.mpr (Or.inr h))) (hb w))
theorem goodIn_sub {big ws : List Cond} (hm : ∀ w ∈ ws, w ∈ big) (h : ws.all goodWord = true) : GoodIn big ws := fun w hw => ⟨hm w hw, good_of_word (List.all_eq_true.mp h w hw)⟩
/-! ===== END ===== -/

/-! ===== BEGIN exceptions that leave a method, and their catching by the caller (launches without stack traces) ===== -/
section VXA
/-! The laws vx_back, vx_callV, vx_callS, vx_callSW, vx_throw0, vx_throwS follow proofs of the library, with one case more: JvmDerived/Free/Laws.lean (Back.of_free), Shelf42/LK1.lean (callV, callS), Shelf/KitTraced.lean (throwNew0V, throwNewS). -/
/-- where a method has thrown q: the class by its name, the cell, what was written, the world -/
def vx_T (XC : String → State → State → Prop) (st : State) (q : Addr) (t : State) (mc ms : Nat) (free : Addr → Prop) : Prop :=
  ∃ (E : String) (ce : Cell) (L : List Loc), XC E st t ∧ t.heap[q]? = some ce ∧ ce.vm = .none ∧ st.vm.findClass E = some ce.cls ∧ st.WarmedH t.vm ∧ st.sameButNew ({ t with vm := st.vm } : State) L mc ms ∧ ∀ z ∈ L, free z.base
def vx_Q (Qc : Array Value → State → Outcome → State → Prop) (XC : String → State → State → Prop) (mc ms : Nat) (free : Addr → Prop) : Array Value → State → Outcome → State → Prop := fun a st o t =>
  (Qc a st o t ∧ ∃ L, FrameEnd st o t L mc ms ∧ ∀ q ∈ L, free q.base) ∨ ∃ q, o = .threw q ∧ vx_T XC st q t mc ms free
/-- a callee that returns or throws -/
def vx_Met (l : Launch) (y : MethodName) (ws : List Cond) (rm : Room) (Pc : Array Value → State → Prop) (Qc : Array Value → State → Outcome → State → Prop) (XC : String → State → State → Prop) (mc ms : Nat) (free : Addr → Prop) : Prop :=
  MetFree l y (headSpec ws rm) Pc (fun _ _ _ _ _ => True) (vx_Q Qc XC mc ms free)
def vx_Post (XC : String → State → State → Prop) (mc ms : Nat) (free : Addr → Prop) : Pt → Array Value → Addr → Pt → Prop := fun A a q B =>
  ∃ (g : JFrame) (mk : MethodId) (t : State) (L : List Loc) (E : String) (ce : Cell), B.U.heap = t.heap ∧ B.U.vm = t.vm ∧ XC E (A.U.calling g mk a) t ∧ t.heap[q]? = some ce ∧ ce.vm = .none ∧ A.U.vm.findClass E = some ce.cls ∧ B.locs = A.locs ++ L ∧ (∀ z ∈ L, free z.base) ∧ B.cells = A.cells + mc ∧ B.slots = A.slots + ms
def vx_Back (l : Launch) (R : Room) (p : Program) (e : Env) (below : List Frame) (s : State) (sargs : Array Value) (y : MethodName) (len W9 : Nat)
    (Pre : Pt → Array Value → Prop) (Post : Pt → Array Value → Option Value → Pt → Prop) (PostX : Pt → Array Value → Addr → Pt → Prop) : Prop :=
  ∀ (m : MethodId) (meth : Method) (c : Code) (A : Pt) (g : JFrame) (ig : Instr) (mk : MethodId) (a : Array Value),
    Stand p l e R s m sargs below meth c A.U A.locs A.cells A.slots → g.method = m → g.locals.size = c.maxLocals → decode c.code g.pc = .ok (ig, len) →
    2 * g.monitorRoom + (g.stack.map fun v => v.category).sum ≤ W9 → A.U.methodNamed? y = some mk → Pre A a →
    (∃ (v : Option Value) (B : Pt), Stand p l e R s m sargs below meth c B.U B.locs B.cells B.slots ∧ Post A a v B ∧
      Steps p.tables e below (doInvoke e (A.U.setTop g) [] mk a).1 (B.U.setTop { g with pc := g.pc + len, stack := v.toList ++ g.stack })) ∨
    (∃ (q : Addr) (B : Pt), Stand p l e R s m sargs below meth c B.U B.locs B.cells B.slots ∧ PostX A a q B ∧
      Steps p.tables e below (doInvoke e (A.U.setTop g) [] mk a).1 ((B.U.setTop g).pushFrame (.throwing q)))
section Payer
variable {l : Launch} {R : Room} {p : Program} {e : Env} {below : List Frame} {s : State} {sargs : Array Value} {y : MethodName} {len W9 : Nat}
theorem vx_back {ws : List Cond} {rm : Room} {Pc : Array Value → State → Prop} {Qc : Array Value → State → Outcome → State → Prop} {XC : String → State → State → Prop} {mc ms : Nat} {free : Addr → Prop} {bytes : ByteArray} {maxL : Nat} {ret : Option FieldType}
    (hM : vx_Met l y ws rm Pc Qc XC mc ms free) (hblind : FrameBlind Pc) (hrc : rm.cells = mc) (hrs : rm.slots = ms)
    (hframes : rm.frames + 1 ≤ R.frames) (hlocals : W9 + (maxL + 11) + rm.locals ≤ R.locals)
    (hws : ∀ w ∈ ws, ∀ a' U, s.WarmedH U.vm → w.before a' U = true) (hcode : Cond.code y bytes maxL ret ∈ ws) (hinit : ∀ a' U, s.WarmedH U.vm → (Cond.initialized y.cls).before a' U = true) :
    vx_Back l R p e below s sargs y len W9 (PreOf R mc ms Pc) (PostOf Qc mc ms free) (vx_Post XC mc ms free) := by
  intro m meth c A g ig mk a X hg hsize hdg hW hn hp
  have h1 : (headSpec ws rm).pre.before a A.U = true := atoms_intro fun w hw => hws w hw _ _ X.warmed
  have h2 : (Cond.code y bytes maxL ret).before a A.U = true := hws _ hcode _ _ X.warmed
  have h3 : (Cond.initialized y.cls).before a A.U = true := hinit _ _ X.warmed
  have h4 : A.cells + (headSpec ws rm).room.cells ≤ R.cells := by rw [show (headSpec ws rm).room.cells = mc from hrc]; exact hp.1
  have h5 : A.slots + (headSpec ws rm).room.slots ≤ R.slots := by rw [show (headSpec ws rm).room.slots = ms from hrs]; exact hp.2.1
  have hPc : Pc a (A.U.calling g mk a) := hblind _ _ _ _ hp.2.2
  obtain ⟨U, Ls, c0, s0⟩ := A
  dsimp only [Pt.U, Pt.locs, Pt.cells, Pt.slots] at h1 h2 h3 h4 h5 X hn hPc ⊢
  obtain ⟨methY, cY, hmY, hcY, -, hlY, -, -, -, -⟩ := Cond.code_spec hn h2
  obtain ⟨kY, hkY, -⟩ := className_of_methodNamed hn
  have hinitY : kY.init = .initialized := Cond.initialized_spec (findClass_of_methodNamed hn) hkY h3
  have h : At U g.method c below := by rw [hg]; exact X.here
  have hlocals9 : W9 + (maxL + 11) + (headSpec ws rm).room.locals ≤ R.locals := hlocals
  have happ : (headSpec ws rm).appliesLoose y e.platform (U.calling g mk a) = true :=
    Spec.appliesLoose_calling (g := g) h hdg hn hkY hinitY
      (X.room_calling (g := g) (R' := (headSpec ws rm).room) hsize hmY hcY hframes (by rw [hlY]; omega) h4 h5) h1
  obtain ⟨mid, hmid⟩ := h.above
  have hfr : (U.setTop g).frames = (.java g :: mid) ++ below := by rw [State.frames_setTop' g h.top, hmid]; rfl
  obtain ⟨o, s₂, hsteps, -, hend, hq⟩ := Steps.callFree hM p X.admits X.cas X.clock (acts := []) hfr happ hPc trivial
  have hq' : vx_Q Qc XC mc ms free a (U.calling g mk a) o s₂ := hq
  rw [State.frames_setTop' g h.top] at hend
  obtain ⟨g₀, hg0⟩ := Option.isSome_iff_exists.mp h.top
  obtain ⟨r, hr⟩ := State.topJava?_eq_some.mp hg0
  have hr' : (({ U with heap := s₂.heap, slotsUsed := s₂.slotsUsed } : State).setVm s₂.vm).frames = .java g₀ :: r := hr
  rcases hq' with ⟨hqc, L, hfe, hL⟩ | ⟨q, rfl, E, ce, L, hx, hce, hcv, hcl, hW₂, hsm, hL⟩
  · obtain ⟨⟨v, rfl⟩, hW₂, e2, q2, q3, q4, q5, q6⟩ := id hfe
    have e3 : s₂ = ({ (U.calling g mk a).setFrames s₂.frames with heap := s₂.heap, slotsUsed := s₂.slotsUsed } : State).setVm s₂.vm := by
      have : s₂ = ({ s₂ with vm := (U.calling g mk a).vm } : State).setVm s₂.vm := rfl
      rw [e2] at this
      exact this
    obtain ⟨c₂, i₂, len₂, hc₂, hd₂, hf₂⟩ := hend
    have hW' : U.WarmedH s₂.vm := hW₂
    have hcc : c₂ = c := by
      have h1 : s₂.code? g.method = U.code? g.method := by
        rw [State.code?_eq, State.code?_eq, hW'.alike.method?]
      exact Option.some.inj (hc₂.symm.trans (h1.trans h.code))
    subst hcc
    have hlen : len₂ = len := by rw [hdg] at hd₂; cases hd₂; rfl
    subst hlen
    have hs₂ : s₂ = (({ U with heap := s₂.heap, slotsUsed := s₂.slotsUsed } : State).setVm s₂.vm).setTop { g with pc := g.pc + len₂, stack := v.toList ++ g.stack } := by
      refine e3.trans ?_
      rw [hf₂, State.calling_eq h.top, State.setFrames_setFrames, State.setTop_of_frames _ hr', hr]
      rfl
    have hsame : U.sameButNew ({ U with heap := s₂.heap, slotsUsed := s₂.slotsUsed } : State) L mc ms := by
      refine ⟨?_, q2, q3, q4, q5, q6⟩
      obtain ⟨t, ht, -⟩ := State.frames_cons hr
      show ({ U with heap := s₂.heap, slotsUsed := s₂.slotsUsed } : State) = { U.setFrames U.frames with heap := s₂.heap, slotsUsed := s₂.slotsUsed }
      rw [State.setFrames_self ht]
    subst hg
    refine Or.inl ⟨v, ⟨(({ U with heap := s₂.heap, slotsUsed := s₂.slotsUsed } : State).setVm s₂.vm), Ls ++ L, c0 + mc, s0 + ms⟩,
      ⟨X.admits, X.cas, X.clock, X.frames, X.room, X.hears, X.method, X.code, (X.here.setHeapUsed s₂.heap s₂.slotsUsed).setVm hW'.alike, X.tail, State.WarmedH.trans X.warmed hW', X.limits, X.bytes, X.same.trans (hsame.setVm s.vm)⟩,
      ⟨g, mk, s₂, L, rfl, rfl, hqc, rfl, hL, rfl, rfl⟩, ?_⟩
    show Steps p.tables e below _ ((({ U with heap := s₂.heap, slotsUsed := s₂.slotsUsed } : State).setVm s₂.vm).setTop { g with pc := g.pc + len₂, stack := v.toList ++ g.stack })
    rw [← hs₂]
    exact hsteps
  · obtain ⟨e2, q2, q3, q4, q5, q6⟩ := id hsm
    have e3 : s₂ = ({ (U.calling g mk a).setFrames s₂.frames with heap := s₂.heap, slotsUsed := s₂.slotsUsed } : State).setVm s₂.vm := by
      have : s₂ = ({ s₂ with vm := (U.calling g mk a).vm } : State).setVm s₂.vm := rfl
      rw [e2] at this
      exact this
    have hf₂ : s₂.frames = .throwing q :: .java g :: U.frames.tail := hend
    have hW' : U.WarmedH s₂.vm := hW₂
    have hs₂ : s₂ = ((({ U with heap := s₂.heap, slotsUsed := s₂.slotsUsed } : State).setVm s₂.vm).setTop g).pushFrame (.throwing q) := by
      refine e3.trans ?_
      rw [hf₂, State.calling_eq h.top, State.setFrames_setFrames, State.pushFrame, State.frames_setTop _ hr', State.setTop_of_frames _ hr', State.setFrames_setFrames, hr]
      rfl
    have hsame : U.sameButNew ({ U with heap := s₂.heap, slotsUsed := s₂.slotsUsed } : State) L mc ms := by
      refine ⟨?_, q2, q3, q4, q5, q6⟩
      obtain ⟨t, ht, -⟩ := State.frames_cons hr
      show ({ U with heap := s₂.heap, slotsUsed := s₂.slotsUsed } : State) = { U.setFrames U.frames with heap := s₂.heap, slotsUsed := s₂.slotsUsed }
      rw [State.setFrames_self ht]
    subst hg
    refine Or.inr ⟨q, ⟨(({ U with heap := s₂.heap, slotsUsed := s₂.slotsUsed } : State).setVm s₂.vm), Ls ++ L, c0 + mc, s0 + ms⟩,
      ⟨X.admits, X.cas, X.clock, X.frames, X.room, X.hears, X.method, X.code, (X.here.setHeapUsed s₂.heap s₂.slotsUsed).setVm hW'.alike, X.tail, State.WarmedH.trans X.warmed hW', X.limits, X.bytes, X.same.trans (hsame.setVm s.vm)⟩,
      ⟨g, mk, s₂, L, E, ce, rfl, rfl, hx, hce, hcv, hcl, rfl, hL, rfl, rfl⟩, ?_⟩
    show Steps p.tables e below _ (((({ U with heap := s₂.heap, slotsUsed := s₂.slotsUsed } : State).setVm s₂.vm).setTop g).pushFrame (.throwing q))
    rw [← hs₂]
    exact hsteps
end Payer
section Calls
variable {p : Program} {l : Launch} {e : Env} {R : Room} {s : State} {m : MethodId} {args : Array Value} {below : List Frame} {meth : Method} {c : Code} {T : State} {locs : List Loc} {cells slots : Nat}
theorem vx_callV (X : Stand p l e R s m args below meth c T locs cells slots) (hexec : p.tables.exec = Jvm.exec) {own C : String} {index : Nat} {y : MethodName} {bytes : ByteArray} {maxL : Nat} {ret : Option FieldType}
    (hown : s.vm.findClass own = some m.cls) (hlink : (Cond.methodLink own index y).before args s = true) (hinst : (Cond.instanceMethod y).before args s = true) (hsel : (Cond.selects C y y).before args s = true)
    (hcode : (Cond.code y bytes maxL ret).before args s = true) (hy : y.cls ≠ "java/lang/invoke/MethodHandle" ∧ y.cls ≠ "java/lang/invoke/VarHandle")
    {W9 : Nat} {Pre : Pt → Array Value → Prop} {Post : Pt → Array Value → Option Value → Pt → Prop} {PostX : Pt → Array Value → Addr → Pt → Prop} (hK : vx_Back l R p e below s args y 3 W9 Pre Post PostX)
    {b : Addr} {cellB : Cell} (hcell : T.heap[b]? = some cellB) (hobj : cellB.vm.isStatics = false) (hcls : s.vm.findClass C = some cellB.cls)
    {g : JFrame} (hg : g.method = m) (hsize : g.locals.size = c.maxLocals) {argsL rest : List Value} (hlen : ∀ sig, parseMethodDescriptor y.desc = some sig → argsL.length = sig.parameters.length)
    (hstack : g.stack = argsL.reverse ++ .ref b :: rest) (hW : 2 * g.monitorRoom + (rest.map fun v => v.category).sum ≤ W9) (hdg : decode c.code g.pc = .ok (.invokevirtual index, 3))
    (hpre : ∀ vm₁, s.WarmedH vm₁ → Pre ⟨T.setVm vm₁, locs, cells, slots⟩ (Value.ref b :: argsL).toArray) :
    (∃ (v : Option Value) (vm₁ : Vm) (B : Pt), s.WarmedH vm₁ ∧ Stand p l e R s m args below meth c B.U B.locs B.cells B.slots ∧ Post ⟨T.setVm vm₁, locs, cells, slots⟩ (Value.ref b :: argsL).toArray v B ∧
      ∀ target, Steps p.tables e below (B.U.setTop { g with pc := g.pc + 3, stack := v.toList ++ rest }) target → Steps p.tables e below (T.setTop g) target) ∨
    (∃ (q : Addr) (vm₁ : Vm) (B : Pt), s.WarmedH vm₁ ∧ Stand p l e R s m args below meth c B.U B.locs B.cells B.slots ∧ PostX ⟨T.setVm vm₁, locs, cells, slots⟩ (Value.ref b :: argsL).toArray q B ∧
      Steps p.tables e below (T.setTop g) ((B.U.setTop { g with stack := rest }).pushFrame (.throwing q))) := by
  obtain ⟨mk, methM, hnamed, hmethM, hstM, habM⟩ := Cond.instanceMethod_spec hinst
  obtain ⟨methM', cM, hmethM', -, -, -, -, -, -, hsigM⟩ := Cond.code_spec hnamed hcode
  cases hmethM.symm.trans hmethM'
  obtain ⟨c2, r2, m2, q1, q2, q3, q4, kP, hkP, hkPi⟩ := Cond.selects_spec hsel
  cases hcls.symm.trans q1
  cases (State.methodFound?_of_named hnamed hy).symm.trans q2
  cases hnamed.symm.trans q3
  have hselP : selectMethod e.platform s.vm cellB.cls mk = .method mk := by rw [Launch.admits_selectMethod X.admits]; exact q4
  obtain ⟨vm₁, X₁, hstep₁⟩ := X.invokevirtual hexec hown hlink hnamed hmethM hstM hkP hkPi hy (a := b) (cell := cellB) hcell
    (fun z h => by rw [h] at hobj; cases hobj) hselP hmethM habM hkP hkPi (g := g) hg (argsL := argsL) (rest := rest) (hlen _ hsigM) hstack hdg
  rcases hK m meth c ⟨T.setVm vm₁, locs, cells, slots⟩ { g with stack := rest } (.invokevirtual index) mk (Value.ref b :: argsL).toArray X₁ hg hsize hdg hW (X₁.named hnamed) (hpre vm₁ X₁.warmed) with ⟨v, B, X', hpost, hsteps⟩ | ⟨q, B, X', hpost, hsteps⟩
  · exact Or.inl ⟨v, vm₁, B, X₁.warmed, X', hpost, fun target h => hstep₁ _ fun acts => by rw [doInvoke_state]; exact hsteps.trans h⟩
  · exact Or.inr ⟨q, vm₁, B, X₁.warmed, X', hpost, hstep₁ _ fun acts => by rw [doInvoke_state]; exact hsteps⟩
theorem vx_callS (X : Stand p l e R s m args below meth c T locs cells slots) (hexec : p.tables.exec = Jvm.exec) {own : String} {index : Nat} {y : MethodName} {bytes : ByteArray} {maxL : Nat} {ret : Option FieldType}
    (hown : s.vm.findClass own = some m.cls) (hlink : (Cond.methodLink own index y).before args s = true) (hstat : (Cond.static y).before args s = true) (hinit : (Cond.initialized y.cls).before args s = true)
    (hcode : (Cond.code y bytes maxL ret).before args s = true) (hy : y.cls ≠ "java/lang/invoke/MethodHandle" ∧ y.cls ≠ "java/lang/invoke/VarHandle")
    {W9 : Nat} {Pre : Pt → Array Value → Prop} {Post : Pt → Array Value → Option Value → Pt → Prop} {PostX : Pt → Array Value → Addr → Pt → Prop} (hK : vx_Back l R p e below s args y 3 W9 Pre Post PostX)
    {g : JFrame} (hg : g.method = m) (hsize : g.locals.size = c.maxLocals) {argsL rest : List Value} (hlen : ∀ sig, parseMethodDescriptor y.desc = some sig → argsL.length = sig.parameters.length)
    (hstack : g.stack = argsL.reverse ++ rest) (hW : 2 * g.monitorRoom + (rest.map fun v => v.category).sum ≤ W9) (hdg : decode c.code g.pc = .ok (.invokestatic index, 3))
    (hpre : ∀ vm₁, s.WarmedH vm₁ → Pre ⟨T.setVm vm₁, locs, cells, slots⟩ argsL.toArray) :
    (∃ (v : Option Value) (vm₁ : Vm) (B : Pt), s.WarmedH vm₁ ∧ Stand p l e R s m args below meth c B.U B.locs B.cells B.slots ∧ Post ⟨T.setVm vm₁, locs, cells, slots⟩ argsL.toArray v B ∧
      ∀ target, Steps p.tables e below (B.U.setTop { g with pc := g.pc + 3, stack := v.toList ++ rest }) target → Steps p.tables e below (T.setTop g) target) ∨
    (∃ (q : Addr) (vm₁ : Vm) (B : Pt), s.WarmedH vm₁ ∧ Stand p l e R s m args below meth c B.U B.locs B.cells B.slots ∧ PostX ⟨T.setVm vm₁, locs, cells, slots⟩ argsL.toArray q B ∧
      Steps p.tables e below (T.setTop g) ((B.U.setTop { g with stack := rest }).pushFrame (.throwing q))) := by
  obtain ⟨mk, hnamed⟩ := Cond.code_named hcode
  obtain ⟨methM, cM, hmethM, -, -, -, -, -, -, hsigM⟩ := Cond.code_spec hnamed hcode
  have hstatic : methM.isStatic = true := Cond.static_spec hnamed hmethM hstat
  obtain ⟨kP, hkP, -⟩ := className_of_methodNamed hnamed
  have hinitP : kP.init = .initialized := Cond.initialized_spec (findClass_of_methodNamed hnamed) hkP hinit
  obtain ⟨vm₁, X₁, hstep₁⟩ := X.invokestatic hexec hown hlink hnamed hmethM hstatic hkP hinitP hy (g := g) hg (argsL := argsL) (rest := rest) (hlen _ hsigM) hstack hdg
  rcases hK m meth c ⟨T.setVm vm₁, locs, cells, slots⟩ { g with stack := rest } (.invokestatic index) mk argsL.toArray X₁ hg hsize hdg hW (X₁.named hnamed) (hpre vm₁ X₁.warmed) with ⟨v, B, X', hpost, hsteps⟩ | ⟨q, B, X', hpost, hsteps⟩
  · exact Or.inl ⟨v, vm₁, B, X₁.warmed, X', hpost, fun target h => hstep₁ _ fun acts => by rw [doInvoke_state]; exact hsteps.trans h⟩
  · exact Or.inr ⟨q, vm₁, B, X₁.warmed, X', hpost, hstep₁ _ fun acts => by rw [doInvoke_state]; exact hsteps⟩
end Calls
theorem vx_cls {s : State} {T : State} {vm₁ : Vm} {E : String} {k : ClassId} (hW : s.WarmedH vm₁) (h : (T.setVm vm₁).vm.findClass E = some k) : s.vm.findClass E = some k := by
  have h1 : vm₁.findClass E = some k := h
  rw [hW.alike.findClass] at h1
  exact h1
/-- the method's frame g, with q thrown over it -/
def vx_W (p : Program) (l : Launch) (e : Env) (R : Room) (s : State) (m : MethodId) (args : Array Value) (below : List Frame) (meth : Method) (c : Code) (H : Heap) (locs : List Loc) (cells slots : Nat) (Q : State → Prop) (g : JFrame) (q : Addr) : Prop :=
  ∀ T : State, T.heap = H → Stand p l e R s m args below meth c T locs cells slots → ∃ t, Steps p.tables e below ((T.setTop g).pushFrame (.throwing q)) t ∧ Q t
def vx_Run (p : Program) (l : Launch) (e : Env) (R : Room) (s : State) (m : MethodId) (args : Array Value) (below : List Frame) (meth : Method) (c : Code) (H : Heap) (locs : List Loc) (cells slots mc ms : Nat) (g : JFrame) (rest : List Value) (Qa : State → Outcome → State → Prop) (XC : String → State → State → Prop) (free : Addr → Prop) : Prop :=
  ∀ T : State, T.heap = H → Stand p l e R s m args below meth c T locs cells slots →
    (∃ (v : Option Value) (st₀ t T' : State) (L : List Loc), st₀.heap = H ∧ Stand p l e R s m args below meth c T' (locs ++ L) (cells + mc) (slots + ms) ∧ (∀ q ∈ L, free q.base) ∧ T'.heap = t.heap ∧ T'.vm = t.vm ∧ Qa st₀ (.returned v) t ∧
      Goes p e below T g T' { g with pc := g.pc + 3, stack := v.toList ++ rest }) ∨
    (∃ (q : Addr) (st₀ t T' : State) (L : List Loc) (E : String) (ce : Cell), st₀.heap = H ∧ Stand p l e R s m args below meth c T' (locs ++ L) (cells + mc) (slots + ms) ∧ (∀ z ∈ L, free z.base) ∧ T'.heap = t.heap ∧ T'.vm = t.vm ∧ XC E st₀ t ∧ t.heap[q]? = some ce ∧ ce.vm = .none ∧ s.vm.findClass E = some ce.cls ∧
      Steps p.tables e below (T.setTop g) ((T'.setTop { g with stack := rest }).pushFrame (.throwing q)))
def vx_X {S : Type} (px : S → Prop) (B : String → S → State → Prop) (A : Nat → Prop) : String → State → State → Prop := fun E st t => ∃ u : S, px u ∧ B E u t ∧ va_F A st t
section Runs
variable {p : Program} {l : Launch} {e : Env} {R : Room} {s : State} {m : MethodId} {args : Array Value} {below : List Frame} {meth : Method} {c : Code} {H : Heap} {locs : List Loc} {cells slots : Nat}
variable {y : MethodName} {bytes cc : ByteArray} {maxL nL mc ms n index : Nat} {ret : Option FieldType} {ws : List Cond} {rm : Room} {Pc : Array Value → State → Prop} {Qc : Array Value → State → Outcome → State → Prop} {XC : String → State → State → Prop} {free : Addr → Prop} {Ts : List Cond} {own C : String} {b : Addr} {As rest : List Value} {g : JFrame}
theorem vx_callBack (cb : CallB R s args own index y bytes maxL ret ws rm mc ms n) (hM : vx_Met l y ws rm Pc Qc XC mc ms free) (hbl : FrameBlind Pc) : vx_Back l R p e below s args y 3 8 (PreOf R mc ms Pc) (PostOf Qc mc ms free) (vx_Post XC mc ms free) := by
  obtain ⟨hrc, hrs, hfr, hlo, hws, hcw, -, hini, -⟩ := cb
  exact vx_back (bytes := bytes) (maxL := maxL) (ret := ret) hM hbl hrc hrs hfr hlo hws hcw (fun a' U hW => word_at hW (Or.inl (by first | rfl | simp [Cond.onTables, Cond.keeps, Cond.steady])) hini)
theorem vx_runV (S : CallFix p m c cc nL s args Ts own) (hM : vx_Met l y ws rm Pc Qc XC mc ms free) (cw : CallW R s args own C index y bytes maxL ret ws rm mc ms n) (hp : PreV s H C b Pc As)
    (hg : g.method = m) (hn : As.length = n) (hsize : g.locals.size = nL) (hstack : g.stack = As.reverse ++ .ref b :: rest) (hW : 2 * g.monitorRoom + (rest.map fun v => v.category).sum ≤ 8) (hdg : decode cc g.pc = .ok (.invokevirtual index, 3)) (hf : cells + mc ≤ R.cells ∧ slots + ms ≤ R.slots) :
    vx_Run p l e R s m args below meth c H locs cells slots mc ms g rest (Qc (Value.ref b :: As).toArray) XC free := by
  have hK : vx_Back l R p e below s args y 3 8 (PreOf R mc ms Pc) (PostOf Qc mc ms free) (vx_Post XC mc ms free) := vx_callBack cw.1 hM hp.1
  obtain ⟨⟨-, -, -, -, -, -, hcode, -, hy, hlen, hl⟩, hin, hse⟩ := cw
  obtain ⟨hx, hb, hml, ho, -⟩ := S
  obtain ⟨-, ⟨cellB, hcB, hoB, hclB⟩, hPc⟩ := hp
  intro T hT X
  rcases vx_callV X hx (C := C) (bytes := bytes) (maxL := maxL) (ret := ret) ho hl hin hse hcode hy hK (by rw [hT]; exact hcB) hoB hclB hg (hsize.trans hml.symm) (argsL := As) (rest := rest) (fun sig h => hn.trans (hlen sig h)) hstack hW (by rw [hb]; exact hdg)
    (fun vm₁ hW₁ => ⟨hf.1, hf.2, hPc (T.setVm vm₁) hT hW₁⟩) with ⟨v, vm₁, ⟨U', l2, c2, s2⟩, hW₁, X', ⟨g', mk, t, L, e1, e2, hq, h1, hL, h2, h3⟩, st⟩ | ⟨q, vm₁, ⟨U', l2, c2, s2⟩, hW₁, X', ⟨g', mk, t, L, E, ce, e1, e2, hq, hce, hcv, hcl, h1, hL, h2, h3⟩, st⟩
  · dsimp only [Pt.U, Pt.locs, Pt.cells, Pt.slots] at X' e1 e2 h1 h2 h3 st
    subst h1; subst h2; subst h3
    exact Or.inl ⟨v, (T.setVm vm₁).calling g' mk (Value.ref b :: As).toArray, t, U', L, hT, X', hL, e1, e2, hq, st⟩
  · dsimp only [Pt.U, Pt.locs, Pt.cells, Pt.slots] at X' e1 e2 h1 h2 h3 st hcl
    subst h1; subst h2; subst h3
    exact Or.inr ⟨q, (T.setVm vm₁).calling g' mk (Value.ref b :: As).toArray, t, U', L, E, ce, hT, X', hL, e1, e2, hq, hce, hcv, vx_cls hW₁ hcl, st⟩
theorem vx_runS (S : CallFix p m c cc nL s args Ts own) (hM : vx_Met l y ws rm Pc Qc XC mc ms free) (cw : CallB R s args own index y bytes maxL ret ws rm mc ms n ∧ (Cond.static y).before args s = true) (hp : PreS s H Pc As)
    (hg : g.method = m) (hn : As.length = n) (hsize : g.locals.size = nL) (hstack : g.stack = As.reverse ++ rest) (hW : 2 * g.monitorRoom + (rest.map fun v => v.category).sum ≤ 8) (hdg : decode cc g.pc = .ok (.invokestatic index, 3)) (hf : cells + mc ≤ R.cells ∧ slots + ms ≤ R.slots) :
    vx_Run p l e R s m args below meth c H locs cells slots mc ms g rest (Qc As.toArray) XC free := by
  have hK : vx_Back l R p e below s args y 3 8 (PreOf R mc ms Pc) (PostOf Qc mc ms free) (vx_Post XC mc ms free) := vx_callBack cw.1 hM hp.1
  obtain ⟨⟨-, -, -, -, -, -, hcode, hini, hy, hlen, hl⟩, hstt⟩ := cw
  obtain ⟨hx, hb, hml, ho, -⟩ := S
  intro T hT X
  rcases vx_callS X hx (bytes := bytes) (maxL := maxL) (ret := ret) ho hl hstt hini hcode hy hK hg (hsize.trans hml.symm) (argsL := As) (rest := rest) (fun sig h => hn.trans (hlen sig h)) hstack hW (by rw [hb]; exact hdg)
    (fun vm₁ hW₁ => ⟨hf.1, hf.2, hp.2 (T.setVm vm₁) hT hW₁⟩) with ⟨v, vm₁, ⟨U', l2, c2, s2⟩, hW₁, X', ⟨g', mk, t, L, e1, e2, hq, h1, hL, h2, h3⟩, st⟩ | ⟨q, vm₁, ⟨U', l2, c2, s2⟩, hW₁, X', ⟨g', mk, t, L, E, ce, e1, e2, hq, hce, hcv, hcl, h1, hL, h2, h3⟩, st⟩
  · dsimp only [Pt.U, Pt.locs, Pt.cells, Pt.slots] at X' e1 e2 h1 h2 h3 st
    subst h1; subst h2; subst h3
    exact Or.inl ⟨v, (T.setVm vm₁).calling g' mk As.toArray, t, U', L, hT, X', hL, e1, e2, hq, st⟩
  · dsimp only [Pt.U, Pt.locs, Pt.cells, Pt.slots] at X' e1 e2 h1 h2 h3 st hcl
    subst h1; subst h2; subst h3
    exact Or.inr ⟨q, (T.setVm vm₁).calling g' mk As.toArray, t, U', L, E, ce, hT, X', hL, e1, e2, hq, hce, hcv, vx_cls hW₁ hcl, st⟩
end Runs
section Rows
variable {p : Program} {l : Launch} {e : Env} {R : Room} {s : State} {m : MethodId} {args : Array Value} {below : List Frame} {meth : Method} {c : Code} {H : Heap} {locs : List Loc} {cells slots : Nat} {Q : State → Prop}
variable {mc ms : Nat} {free : Addr → Prop} {A0 A1 : Nat → Prop} {H0 : Heap} {a : Array Value} {pc : Nat} {ls : Array Slot} {st0 rest : List Value}
theorem vx_keep {st₀ t T' : State} {L : List Loc} (h0 : st₀.heap = H) (e1 : T'.heap = t.heap) (hS : va_S A0 H0 H locs) (hA : ∀ q, q < H.size → A1 q → A0 q) (hf : ∀ q, free q → A0 q) (hL : ∀ q ∈ L, free q.base) (hF : va_F A1 st₀ t) :
    H.size ≤ T'.heap.size ∧ (∀ q : Nat, q < H.size → ¬ A1 q → T'.heap[q]? = H[q]?) ∧ va_S A0 H0 T'.heap (locs ++ L) := by
  obtain ⟨hz, hk⟩ := hF
  rw [h0] at hz hk
  exact ⟨by rw [e1]; exact hz, fun q h1 h2 => by rw [e1]; exact hk q h1 h2,
    ⟨Nat.le_trans hS.1 (by rw [e1]; exact hz), fun q h1 h2 => by rw [e1, hk q (Nat.lt_of_lt_of_le h1 hS.1) (fun z => h2 (hA q (Nat.lt_of_lt_of_le h1 hS.1) z))]; exact hS.2.1 q h1 h2, fun q hq => by
      rcases List.mem_append.mp hq with h | h
      · exact hS.2.2 q h
      · exact hf _ (hL q h)⟩⟩
theorem vx_calli {S SX : Type} {post : Int32 → S → Prop} {px : SX → Prop} {B : S → State → Prop} {BX : String → SX → State → Prop} {AX : Nat → Prop} (hr : vx_Run p l e R s m args below meth c H locs cells slots mc ms (F0 m pc ls st0) rest (va_Qi post B A1 a) (vx_X px BX AX) free) (hS : va_S A0 H0 H locs) (hA : ∀ q, q < H.size → A1 q → A0 q) (hf : ∀ q, free q → A0 q) (hAX : ∀ q, q < H.size → AX q → A0 q)
    (kx : ∀ (E : String) (ce : Cell) (q9 : Addr) (u : SX) (t : State) (H1 : Heap) (locs1 : List Loc), t.heap = H1 → s.vm.Alike t.vm → px u → BX E u t → H.size ≤ H1.size → (∀ q : Nat, q < H.size → ¬ AX q → H1[q]? = H[q]?) → va_S A0 H0 H1 locs1 → H1[q9]? = some ce → ce.vm = .none → s.vm.findClass E = some ce.cls → vx_W p l e R s m args below meth c H1 locs1 (cells + mc) (slots + ms) Q (F0 m pc ls rest) q9)
    (kk : ∀ (r : Int32) (u : S) (t : State) (H1 : Heap) (locs1 : List Loc), t.heap = H1 → s.vm.Alike t.vm → post r u → B u t → H.size ≤ H1.size → (∀ q : Nat, q < H.size → ¬ A1 q → H1[q]? = H[q]?) → va_S A0 H0 H1 locs1 → W p l e R s m args below meth c H1 locs1 (cells + mc) (slots + ms) Q (F0 m (pc + 3) ls (.int r :: rest))) : W p l e R s m args below meth c H locs cells slots Q (F0 m pc ls st0) := by
  intro T hT X
  rcases hr T hT X with ⟨v, st₀, t, T', L, h0, X', hL, e1, e2, ⟨⟨r, u, hv, hp, hb⟩, hF⟩, st⟩ | ⟨q, st₀, t, T', L, E, ce, h0, X', hL, e1, e2, ⟨u, hp, hb, hF⟩, hce, hcv, hcl, st⟩
  · cases hv
    obtain ⟨k1, k2, k3⟩ := vx_keep h0 e1 hS hA hf hL hF
    obtain ⟨t2, a1, b1⟩ := kk r u t T'.heap (locs ++ L) e1.symm (by rw [← e2]; exact X'.warmed.alike) hp hb k1 k2 k3 T' rfl X'
    exact ⟨t2, st t2 a1, b1⟩
  · obtain ⟨k1, k2, k3⟩ := vx_keep h0 e1 hS hAX hf hL hF
    obtain ⟨t2, a1, b1⟩ := kx E ce q u t T'.heap (locs ++ L) e1.symm (by rw [← e2]; exact X'.warmed.alike) hp hb k1 k2 k3 (by rw [e1]; exact hce) hcv hcl T' rfl X'
    exact ⟨t2, st.trans a1, b1⟩
theorem vx_calll {S SX : Type} {post : Int64 → S → Prop} {px : SX → Prop} {B : S → State → Prop} {BX : String → SX → State → Prop} {AX : Nat → Prop} (hr : vx_Run p l e R s m args below meth c H locs cells slots mc ms (F0 m pc ls st0) rest (va_Ql post B A1 a) (vx_X px BX AX) free) (hS : va_S A0 H0 H locs) (hA : ∀ q, q < H.size → A1 q → A0 q) (hf : ∀ q, free q → A0 q) (hAX : ∀ q, q < H.size → AX q → A0 q)
    (kx : ∀ (E : String) (ce : Cell) (q9 : Addr) (u : SX) (t : State) (H1 : Heap) (locs1 : List Loc), t.heap = H1 → s.vm.Alike t.vm → px u → BX E u t → H.size ≤ H1.size → (∀ q : Nat, q < H.size → ¬ AX q → H1[q]? = H[q]?) → va_S A0 H0 H1 locs1 → H1[q9]? = some ce → ce.vm = .none → s.vm.findClass E = some ce.cls → vx_W p l e R s m args below meth c H1 locs1 (cells + mc) (slots + ms) Q (F0 m pc ls rest) q9)
    (kk : ∀ (r : Int64) (u : S) (t : State) (H1 : Heap) (locs1 : List Loc), t.heap = H1 → s.vm.Alike t.vm → post r u → B u t → H.size ≤ H1.size → (∀ q : Nat, q < H.size → ¬ A1 q → H1[q]? = H[q]?) → va_S A0 H0 H1 locs1 → W p l e R s m args below meth c H1 locs1 (cells + mc) (slots + ms) Q (F0 m (pc + 3) ls (.long r :: rest))) : W p l e R s m args below meth c H locs cells slots Q (F0 m pc ls st0) := by
  intro T hT X
  rcases hr T hT X with ⟨v, st₀, t, T', L, h0, X', hL, e1, e2, ⟨⟨r, u, hv, hp, hb⟩, hF⟩, st⟩ | ⟨q, st₀, t, T', L, E, ce, h0, X', hL, e1, e2, ⟨u, hp, hb, hF⟩, hce, hcv, hcl, st⟩
  · cases hv
    obtain ⟨k1, k2, k3⟩ := vx_keep h0 e1 hS hA hf hL hF
    obtain ⟨t2, a1, b1⟩ := kk r u t T'.heap (locs ++ L) e1.symm (by rw [← e2]; exact X'.warmed.alike) hp hb k1 k2 k3 T' rfl X'
    exact ⟨t2, st t2 a1, b1⟩
  · obtain ⟨k1, k2, k3⟩ := vx_keep h0 e1 hS hAX hf hL hF
    obtain ⟨t2, a1, b1⟩ := kx E ce q u t T'.heap (locs ++ L) e1.symm (by rw [← e2]; exact X'.warmed.alike) hp hb k1 k2 k3 (by rw [e1]; exact hce) hcv hcl T' rfl X'
    exact ⟨t2, st.trans a1, b1⟩
theorem vx_callf {S SX : Type} {post : UInt32 → S → Prop} {px : SX → Prop} {B : S → State → Prop} {BX : String → SX → State → Prop} {AX : Nat → Prop} (hr : vx_Run p l e R s m args below meth c H locs cells slots mc ms (F0 m pc ls st0) rest (va_Qf post B A1 a) (vx_X px BX AX) free) (hS : va_S A0 H0 H locs) (hA : ∀ q, q < H.size → A1 q → A0 q) (hf : ∀ q, free q → A0 q) (hAX : ∀ q, q < H.size → AX q → A0 q)
    (kx : ∀ (E : String) (ce : Cell) (q9 : Addr) (u : SX) (t : State) (H1 : Heap) (locs1 : List Loc), t.heap = H1 → s.vm.Alike t.vm → px u → BX E u t → H.size ≤ H1.size → (∀ q : Nat, q < H.size → ¬ AX q → H1[q]? = H[q]?) → va_S A0 H0 H1 locs1 → H1[q9]? = some ce → ce.vm = .none → s.vm.findClass E = some ce.cls → vx_W p l e R s m args below meth c H1 locs1 (cells + mc) (slots + ms) Q (F0 m pc ls rest) q9)
    (kk : ∀ (r : UInt32) (u : S) (t : State) (H1 : Heap) (locs1 : List Loc), t.heap = H1 → s.vm.Alike t.vm → post r u → B u t → H.size ≤ H1.size → (∀ q : Nat, q < H.size → ¬ A1 q → H1[q]? = H[q]?) → va_S A0 H0 H1 locs1 → W p l e R s m args below meth c H1 locs1 (cells + mc) (slots + ms) Q (F0 m (pc + 3) ls (.float r :: rest))) : W p l e R s m args below meth c H locs cells slots Q (F0 m pc ls st0) := by
  intro T hT X
  rcases hr T hT X with ⟨v, st₀, t, T', L, h0, X', hL, e1, e2, ⟨⟨r, u, hv, hp, hb⟩, hF⟩, st⟩ | ⟨q, st₀, t, T', L, E, ce, h0, X', hL, e1, e2, ⟨u, hp, hb, hF⟩, hce, hcv, hcl, st⟩
  · cases hv
    obtain ⟨k1, k2, k3⟩ := vx_keep h0 e1 hS hA hf hL hF
    obtain ⟨t2, a1, b1⟩ := kk r u t T'.heap (locs ++ L) e1.symm (by rw [← e2]; exact X'.warmed.alike) hp hb k1 k2 k3 T' rfl X'
    exact ⟨t2, st t2 a1, b1⟩
  · obtain ⟨k1, k2, k3⟩ := vx_keep h0 e1 hS hAX hf hL hF
    obtain ⟨t2, a1, b1⟩ := kx E ce q u t T'.heap (locs ++ L) e1.symm (by rw [← e2]; exact X'.warmed.alike) hp hb k1 k2 k3 (by rw [e1]; exact hce) hcv hcl T' rfl X'
    exact ⟨t2, st.trans a1, b1⟩
theorem vx_calld {S SX : Type} {post : UInt64 → S → Prop} {px : SX → Prop} {B : S → State → Prop} {BX : String → SX → State → Prop} {AX : Nat → Prop} (hr : vx_Run p l e R s m args below meth c H locs cells slots mc ms (F0 m pc ls st0) rest (va_Qd post B A1 a) (vx_X px BX AX) free) (hS : va_S A0 H0 H locs) (hA : ∀ q, q < H.size → A1 q → A0 q) (hf : ∀ q, free q → A0 q) (hAX : ∀ q, q < H.size → AX q → A0 q)
    (kx : ∀ (E : String) (ce : Cell) (q9 : Addr) (u : SX) (t : State) (H1 : Heap) (locs1 : List Loc), t.heap = H1 → s.vm.Alike t.vm → px u → BX E u t → H.size ≤ H1.size → (∀ q : Nat, q < H.size → ¬ AX q → H1[q]? = H[q]?) → va_S A0 H0 H1 locs1 → H1[q9]? = some ce → ce.vm = .none → s.vm.findClass E = some ce.cls → vx_W p l e R s m args below meth c H1 locs1 (cells + mc) (slots + ms) Q (F0 m pc ls rest) q9)
    (kk : ∀ (r : UInt64) (u : S) (t : State) (H1 : Heap) (locs1 : List Loc), t.heap = H1 → s.vm.Alike t.vm → post r u → B u t → H.size ≤ H1.size → (∀ q : Nat, q < H.size → ¬ A1 q → H1[q]? = H[q]?) → va_S A0 H0 H1 locs1 → W p l e R s m args below meth c H1 locs1 (cells + mc) (slots + ms) Q (F0 m (pc + 3) ls (.double r :: rest))) : W p l e R s m args below meth c H locs cells slots Q (F0 m pc ls st0) := by
  intro T hT X
  rcases hr T hT X with ⟨v, st₀, t, T', L, h0, X', hL, e1, e2, ⟨⟨r, u, hv, hp, hb⟩, hF⟩, st⟩ | ⟨q, st₀, t, T', L, E, ce, h0, X', hL, e1, e2, ⟨u, hp, hb, hF⟩, hce, hcv, hcl, st⟩
  · cases hv
    obtain ⟨k1, k2, k3⟩ := vx_keep h0 e1 hS hA hf hL hF
    obtain ⟨t2, a1, b1⟩ := kk r u t T'.heap (locs ++ L) e1.symm (by rw [← e2]; exact X'.warmed.alike) hp hb k1 k2 k3 T' rfl X'
    exact ⟨t2, st t2 a1, b1⟩
  · obtain ⟨k1, k2, k3⟩ := vx_keep h0 e1 hS hAX hf hL hF
    obtain ⟨t2, a1, b1⟩ := kx E ce q u t T'.heap (locs ++ L) e1.symm (by rw [← e2]; exact X'.warmed.alike) hp hb k1 k2 k3 (by rw [e1]; exact hce) hcv hcl T' rfl X'
    exact ⟨t2, st.trans a1, b1⟩
theorem vx_callv {S SX : Type} {post : S → Prop} {px : SX → Prop} {B : S → State → Prop} {BX : String → SX → State → Prop} {AX : Nat → Prop} (hr : vx_Run p l e R s m args below meth c H locs cells slots mc ms (F0 m pc ls st0) rest (va_Qv post B A1 a) (vx_X px BX AX) free) (hS : va_S A0 H0 H locs) (hA : ∀ q, q < H.size → A1 q → A0 q) (hf : ∀ q, free q → A0 q) (hAX : ∀ q, q < H.size → AX q → A0 q)
    (kx : ∀ (E : String) (ce : Cell) (q9 : Addr) (u : SX) (t : State) (H1 : Heap) (locs1 : List Loc), t.heap = H1 → s.vm.Alike t.vm → px u → BX E u t → H.size ≤ H1.size → (∀ q : Nat, q < H.size → ¬ AX q → H1[q]? = H[q]?) → va_S A0 H0 H1 locs1 → H1[q9]? = some ce → ce.vm = .none → s.vm.findClass E = some ce.cls → vx_W p l e R s m args below meth c H1 locs1 (cells + mc) (slots + ms) Q (F0 m pc ls rest) q9)
    (kk : ∀ (u : S) (t : State) (H1 : Heap) (locs1 : List Loc), t.heap = H1 → s.vm.Alike t.vm → post u → B u t → H.size ≤ H1.size → (∀ q : Nat, q < H.size → ¬ A1 q → H1[q]? = H[q]?) → va_S A0 H0 H1 locs1 → W p l e R s m args below meth c H1 locs1 (cells + mc) (slots + ms) Q (F0 m (pc + 3) ls (rest))) : W p l e R s m args below meth c H locs cells slots Q (F0 m pc ls st0) := by
  intro T hT X
  rcases hr T hT X with ⟨v, st₀, t, T', L, h0, X', hL, e1, e2, ⟨⟨u, hv, hp, hb⟩, hF⟩, st⟩ | ⟨q, st₀, t, T', L, E, ce, h0, X', hL, e1, e2, ⟨u, hp, hb, hF⟩, hce, hcv, hcl, st⟩
  · cases hv
    obtain ⟨k1, k2, k3⟩ := vx_keep h0 e1 hS hA hf hL hF
    obtain ⟨t2, a1, b1⟩ := kk u t T'.heap (locs ++ L) e1.symm (by rw [← e2]; exact X'.warmed.alike) hp hb k1 k2 k3 T' rfl X'
    exact ⟨t2, st t2 a1, b1⟩
  · obtain ⟨k1, k2, k3⟩ := vx_keep h0 e1 hS hAX hf hL hF
    obtain ⟨t2, a1, b1⟩ := kx E ce q u t T'.heap (locs ++ L) e1.symm (by rw [← e2]; exact X'.warmed.alike) hp hb k1 k2 k3 (by rw [e1]; exact hce) hcv hcl T' rfl X'
    exact ⟨t2, st.trans a1, b1⟩
/-- caught by the row x of this method's table; the rows ahead don't take it -/
theorem vx_catch {own name : String} {E : String} {ce : Cell} {q : Addr} (hown : s.vm.findClass own = some m.cls) (pre : List ExceptionTableEntry) (x : ExceptionTableEntry) (suf : List ExceptionTableEntry) (hsplit : c.exceptionTable.toList = pre ++ x :: suf)
    (hpass : ∀ z ∈ pre, covers z pc = false ∨ (z.catchType ≠ 0 ∧ ∃ nm : String, (Cond.classLink own z.catchType nm).before args s = true ∧ va_Nc E nm s)) (hx : covers x pc = true) (h0 : x.catchType ≠ 0)
    (hlink : (Cond.classLink own x.catchType name).before args s = true) (hcast : (Cond.castable E name).before args s = true) (hcell : H[q]? = some ce) (hv : ce.vm = .none) (hcl : s.vm.findClass E = some ce.cls)
    (kk : W p l e R s m args below meth c H locs cells slots Q (F0 m x.handlerPc ls [.ref q])) : vx_W p l e R s m args below meth c H locs cells slots Q (F0 m pc ls rest) q := by
  intro T hT X
  have hpl : e.platform.magicAccessors = ({} : Platform).magicAccessors := by rw [X.admits.platform]
  obtain ⟨c3, c4, hc3, hc4, hasg⟩ := Cond.castable_spec hcast
  cases Option.some.inj (hc3.symm.trans hcl)
  obtain ⟨c5, hc5, hcl5⟩ := Cond.classLink_spec hown hlink e.platform hpl
  cases Option.some.inj (hc4.symm.trans hc5)
  obtain ⟨vm', X', st⟩ := X.thenCaughtThrough q (g := F0 m pc ls rest) rfl (Steps.refl _) (by rw [hT]; exact hcell) (by rw [hv]; rfl) (by obtain ⟨k9, h9, -⟩ := Vm.findClass_spec hcl; exact ⟨k9, h9⟩) pre x suf hsplit
    (fun z hz => by
      rcases hpass z hz with h | ⟨hz0, nm, hl1, hn1⟩
      · exact Or.inl h
      · obtain ⟨c6, hc6, hcl6⟩ := Cond.classLink_spec hown hl1 e.platform hpl
        obtain ⟨a8, b8, h1, h2, h3⟩ := hn1
        cases Option.some.inj (h1.symm.trans hcl)
        cases Option.some.inj (h2.symm.trans hc6)
        exact Or.inr ⟨hz0, _, hcl6, h3⟩) hx (Or.inr ⟨h0, c4, hcl5, hasg⟩)
  obtain ⟨t, a1, b1⟩ := kk (T.setVm vm') hT X'
  exact ⟨t, st.trans a1, b1⟩
end Rows
section Ends
variable {p : Program} {l : Launch} {e : Env} {R : Room} {s : State} {m : MethodId} {args : Array Value} {below : List Frame} {meth : Method} {c : Code} {H : Heap} {locs : List Loc} {cells slots : Nat} {Q : State → Prop}
variable {mc ms : Nat} {free : Addr → Prop} {A0 A1 : Nat → Prop} {H0 : Heap} {a : Array Value} {ls : Array Slot} {st0 rest : List Value}
variable {Qc : Array Value → State → Outcome → State → Prop} {XC : String → State → State → Prop}
/-- what a body that may throw owes at its end -/
def vx_MQ (below : List Frame) (Qc : Array Value → State → Outcome → State → Prop) (XC : String → State → State → Prop) (a : Array Value) (s : State) (mc ms : Nat) (free : Addr → Prop) : State → Prop := fun t =>
  ∃ o, t.status = .running ∧ Ended t below o ∧ vx_Q Qc XC mc ms free a s o t
theorem vx_ret {g : JFrame} {mc ms : Nat} (k : W p l e R s m args below meth c H locs cells slots (MQ below Qc args s mc ms free) g) : W p l e R s m args below meth c H locs cells slots (vx_MQ below Qc XC args s mc ms free) g := by
  intro T hT X
  obtain ⟨t, a1, o, b1, b2, b3, b4⟩ := k T hT X
  exact ⟨t, a1, o, b1, b2, Or.inl ⟨b3, b4⟩⟩
/-- not caught here: it goes on to the caller -/
theorem vx_widen {g : JFrame} {q : Addr} {k n : Nat} (h1 : cells ≤ k) (h2 : slots ≤ n) (kk : vx_W p l e R s m args below meth c H locs k n Q g q) : vx_W p l e R s m args below meth c H locs cells slots Q g q := fun T hT X => kk T hT (stand_widen X h1 h2)
theorem vx_out {pc : Nat} {E : String} {ce : Cell} {q : Addr} {mc ms : Nat} (hout : ∀ x ∈ c.exceptionTable.toList, covers x pc = false) (hlocks : meth.locks = false) (hcell : H[q]? = some ce) (hv : ce.vm = .none) (hcl : s.vm.findClass E = some ce.cls)
    (hx : ∀ t : State, t.heap = H → s.vm.Alike t.vm → XC E s t) (hf : ∀ z ∈ locs, free z.base) (hc : cells ≤ mc) (hs : slots ≤ ms) :
    vx_W p l e R s m args below meth c H locs cells slots (vx_MQ below Qc XC args s mc ms free) (F0 m pc ls rest) q := by
  intro T hT X
  obtain ⟨st1, hrun, hend, hW, hsm⟩ := X.leaveThrown q (g := F0 m pc ls rest) rfl rfl rfl hout hlocks
  have hcell9 : (T.setFrames (.throwing q :: below)).heap[q]? = some ce := by
    show T.heap[q]? = some ce
    rw [hT]; exact hcell
  exact ⟨_, st1, .threw q, hrun, hend, Or.inr ⟨q, rfl, E, ce, locs, hx _ hT hW.alike, hcell9, hv, hcl, hW, hsm.mono hc hs, hf⟩⟩
theorem vx_frame {U : State} {k n : Nat} (h : s.sameButNew ({ U with vm := s.vm } : State) locs k n) : s.heap.size ≤ U.heap.size ∧ ∀ q : Nat, q < s.heap.size → (∀ z ∈ locs, z.base ≠ q) → U.heap[q]? = s.heap[q]? := by
  obtain ⟨-, h2, -, -, -, h6⟩ := h
  refine ⟨h2, fun q hq hz => ?_⟩
  obtain ⟨c9, e1, e2, e3, e4⟩ := h6 q _ (Array.getElem?_eq_getElem hq)
  have hs : c9.slots = (s.heap[q]).slots := Array.ext_getElem? fun i => e4 i fun hm => hz _ hm rfl
  have h9 : c9 = s.heap[q] := by
    rw [hs] at e2
    exact e2
  have e5 : U.heap[q]? = some c9 := e1
  rw [e5, h9, Array.getElem?_eq_getElem hq]
/-- the words of a throw but the four that speak of the heap -/
def vx_no (w : Cond) : Bool := decide (w ≠ .isRef (.static Bundle.tN "UNASSIGNED_STACK" Bundle.steD)) && decide (w ≠ .isRef (.static Bundle.tN "SUPPRESSED_SENTINEL" Bundle.listD)) && decide (w ≠ .laysStatic Bundle.tN "UNASSIGNED_STACK" Bundle.steD) && decide (w ≠ .laysStatic Bundle.tN "SUPPRESSED_SENTINEL" Bundle.listD)
def vx_at0 (own : String) (ic : Nat) (X : String) (names : List String) : List Cond := (Bundle.ownAtoms0 own ic X names).filter vx_no
def vx_atS (own : String) (ic : Nat) (X : String) (names : List String) : List Cond := (Bundle.ownAtoms own ic X names).filter vx_no
/-- a word that the tables alone decide, or a good one -/
def vx_ot (w : Cond) : Bool := w.onTables || goodWord w
theorem vx_ot_at {args a' : Array Value} {s U : State} {w : Cond} (hW : s.WarmedH U.vm) (hvm : s.vm = U.vm) (hg : vx_ot w = true) (h : w.before args s = true) : w.before a' U = true := by
  simp only [vx_ot, Bool.or_eq_true] at hg
  rcases hg with hg | hg
  · exact va_tabs hg hvm h
  · exact word_at hW (good_of_word hg) h
/-- a list's words: the good ones out of the method's own list, the others by premises of their own -/
theorem vx_hat {args : Array Value} {s : State} {L B : List Cond} (h1 : ∀ w ∈ L.filter goodWord, w.before args s = true) (h2 : ∀ w ∈ L.filter (fun w => !goodWord w), w ∈ B) (h3 : ∀ w ∈ B, w.before args s = true) : ∀ w ∈ L, w.before args s = true := by
  intro w hw
  by_cases g : goodWord w = true
  · exact h1 w (List.mem_filter.mpr ⟨hw, g⟩)
  · refine h3 w (h2 w (List.mem_filter.mpr ⟨hw, ?_⟩))
    show (!goodWord w) = true
    cases hgw : goodWord w
    · rfl
    · exact absurd hgw g
theorem vx_c {args : Array Value} {s : State} {w : Cond} {B : List Cond} (h : w.before args s = true) (t : ∀ w ∈ B, w.before args s = true) : ∀ w' ∈ w :: B, w'.before args s = true := fun w' h' => (List.mem_cons.mp h').elim (fun e => by rw [e]; exact h) (t w')
theorem vx_n {args : Array Value} {s : State} : ∀ w ∈ ([] : List Cond), w.before args s = true := fun _ h => nomatch h
theorem vx_own {args : Array Value} {s : State} {L : List Cond} (h1 : ∀ w ∈ L.filter vx_no, w.before args s = true)
    (hU : (Cond.isRef (.static Bundle.tN "UNASSIGNED_STACK" Bundle.steD)).before args s = true) (hN : (Cond.isRef (.static Bundle.tN "SUPPRESSED_SENTINEL" Bundle.listD)).before args s = true)
    (lU : (Cond.laysStatic Bundle.tN "UNASSIGNED_STACK" Bundle.steD).before args s = true) (lN : (Cond.laysStatic Bundle.tN "SUPPRESSED_SENTINEL" Bundle.listD).before args s = true) : ∀ w ∈ L, w.before args s = true := by
  intro w hw
  by_cases e1 : w = .isRef (.static Bundle.tN "UNASSIGNED_STACK" Bundle.steD)
  · rw [e1]; exact hU
  · by_cases e2 : w = .isRef (.static Bundle.tN "SUPPRESSED_SENTINEL" Bundle.listD)
    · rw [e2]; exact hN
    · by_cases e3 : w = .laysStatic Bundle.tN "UNASSIGNED_STACK" Bundle.steD
      · rw [e3]; exact lU
      · by_cases e4 : w = .laysStatic Bundle.tN "SUPPRESSED_SENTINEL" Bundle.listD
        · rw [e4]; exact lN
        · exact h1 w (List.mem_filter.mpr ⟨hw, by unfold vx_no; rw [decide_eq_true e1, decide_eq_true e2, decide_eq_true e3, decide_eq_true e4]; rfl⟩)
/-- where a static field lies, its class's statics cell in H -/
def vx_L (C n d : String) (A : Nat → Prop) (U : State) (H : Heap) : Prop := ∃ (c : ClassId) (k : Class) (i : Nat) (f : Field) (a : Nat) (cell : Cell), U.vm.findClass C = some c ∧ U.fieldFound? C n d = some (c, k, i, f) ∧ f.isStatic = true ∧ k.statics = some a ∧ H[a]? = some cell ∧ cell.vm.isStatics = true ∧ cell.cls = c ∧ f.slot < cell.slots.size ∧ k.staticTypes[f.slot]? = some f.type ∧ ¬ A a
theorem vx_L.moved {C n d : String} {A : Nat → Prop} {u U : State} {H : Heap} (hvm : u.vm.Alike U.vm) (h : vx_L C n d A u H) : vx_L C n d A U H := by
  obtain ⟨c, k, i, f, a, cell, h1, h2, h3, h4, h5, h6, h7, h8, h9, h10⟩ := h
  obtain ⟨k', hi', he⟩ := State.fieldFound?_setVm hvm h2
  exact ⟨c, k', i, f, a, cell, by rw [hvm.findClass]; exact h1, hi', h3, by rw [he]; exact h4, h5, h6, h7, h8, by rw [he]; exact h9, h10⟩
theorem vx_L.kept {C n d : String} {A : Nat → Prop} {U : State} {H H1 : Heap} (h : vx_L C n d A U H) (hq : ∀ a : Nat, a < H.size → ¬ A a → H1[a]? = H[a]?) : vx_L C n d A U H1 := by
  obtain ⟨c, k, i, f, a, cell, h1, h2, h3, h4, h5, h6, h7, h8, h9, h10⟩ := h
  exact ⟨c, k, i, f, a, cell, h1, h2, h3, h4, by rw [hq a (Array.getElem?_eq_some_iff.mp h5).1 h10]; exact h5, h6, h7, h8, h9, h10⟩
theorem vx_L.narrow {C n d : String} {A B : Nat → Prop} {U : State} {H : Heap} (h : vx_L C n d A U H) (hAB : ∀ q, B q → A q) : vx_L C n d B U H := by
  obtain ⟨c, k, i, f, a, cell, h1, h2, h3, h4, h5, h6, h7, h8, h9, h10⟩ := h
  exact ⟨c, k, i, f, a, cell, h1, h2, h3, h4, h5, h6, h7, h8, h9, fun z => h10 (hAB _ z)⟩
theorem vx_L.word {C n d : String} {A : Nat → Prop} {s : State} {args : Array Value} (h : vx_L C n d A s s.heap) : (Cond.laysStatic C n d).before args s = true := by
  obtain ⟨c, k, i, f, a, cell, h1, h2, h3, h4, h5, h6, h7, h8, h9, -⟩ := h
  show (Cond.laysStatic C n d).holds args s none s [] = true
  exact Cond.laysStatic_of h1 h2 h3 h4 h5 h6 h7 h8 h9
/-- .. and what it holds: null or some reference -/
def vx_Zq (C n d : String) (A : Nat → Prop) (U : State) (H : Heap) : Prop := va_Zq C n d A U H ∧ vx_L C n d A U H
theorem vx_Zq.moved {C n d : String} {A : Nat → Prop} {u U : State} {H : Heap} (hvm : u.vm.Alike U.vm) (h : vx_Zq C n d A u H) : vx_Zq C n d A U H := ⟨va_Zq.moved hvm h.1, vx_L.moved hvm h.2⟩
theorem vx_Zq.kept {C n d : String} {A : Nat → Prop} {U : State} {H H1 : Heap} (h : vx_Zq C n d A U H) (hq : ∀ a : Nat, a < H.size → ¬ A a → H1[a]? = H[a]?) : vx_Zq C n d A U H1 := ⟨va_Zq.kept h.1 hq, vx_L.kept h.2 hq⟩
theorem vx_Zq.narrow {C n d : String} {A B : Nat → Prop} {U : State} {H : Heap} (h : vx_Zq C n d A U H) (hAB : ∀ q, B q → A q) : vx_Zq C n d B U H := ⟨va_Zq.narrow h.1 hAB, vx_L.narrow h.2 hAB⟩
theorem vx_Zqof {args : Array Value} {s : State} {C n d : String} {A : Nat → Prop} (hl : (Cond.laysStatic C n d).before args s = true) (hini : (Cond.initialized C).before args s = true) (h : (Cond.isRef (.static C n d)).before args s = true) (hA : ∀ a : Nat, a < s.heap.size → ¬ A a) : vx_Zq C n d A s s.heap := by
  refine ⟨va_Zqof hl hini h hA, ?_⟩
  obtain ⟨c, k, i, f, a, cell, h1, h2, h3, h4, h5, h6, h7, h8, h9⟩ := Cond.laysStatic_spec hl
  exact ⟨c, k, i, f, a, cell, h1, h2, h3, h4, h5, h6, h7, h8, h9, hA a (Array.getElem?_eq_some_iff.mp h5).1⟩
theorem vx_isRef {C n d : String} {v : Value} {A : Nat → Prop} {s : State} {args : Array Value} (h : va_Z C n d v A s s.heap) (hv : v.isRef = true) : (Cond.isRef (.static C n d)).before args s = true := by
  obtain ⟨cf, kf, fi, f, a, cell, h1, h2, h3, h4, h5, h6, h7, -⟩ := h
  have he : (Term.static C n d).eval args s none [] s = some v := by
    simp [Term.eval, State.fieldNamed?, h1, h2, h4, h5, h6, h7]
  simp only [Cond.before, Cond.holds, Cond.value, he]
  cases v <;> simp_all [Value.isRef]
theorem vx_isRefq {C n d : String} {A : Nat → Prop} {s : State} {args : Array Value} (h : va_Zq C n d A s s.heap) : (Cond.isRef (.static C n d)).before args s = true := by
  rcases h with h | ⟨t, h⟩
  · exact vx_isRef h rfl
  · exact vx_isRef h rfl
/-- the same frame, seen from here: as if the method were called anew in this heap -/
theorem vx_rebase {T : State} (X : Stand p l e R s m args below meth c T locs cells slots) {R' : Room} (hf : R'.frames ≤ R.frames) (hl : R'.locals ≤ R.locals) (hc : cells + R'.cells ≤ R.cells) (hs : slots + R'.slots ≤ R.slots) :
    Stand p l e R' ((T.setVm s.vm).setFrames (.invoking m args :: below)) m args below meth c T [] 0 0 := by
  have htop : (T.setVm s.vm).topJava?.isSome := X.here.top
  have hF : ((T.setVm s.vm).setFrames (.invoking m args :: below)).frames = .invoking m args :: below := State.frames_setFrames _ (State.cur_lt_of_top htop)
  obtain ⟨g₀, hg0⟩ := Option.isSome_iff_exists.mp htop
  obtain ⟨r, hr⟩ := State.topJava?_eq_some.mp hg0
  have hl9 : e.platform.stackLimits (T.setVm s.vm).me = e.platform.stackLimits s.me := X.limits
  have hb9 : (T.setVm s.vm).me.stackBytes = s.me.stackBytes := X.bytes
  refine ⟨X.admits, X.cas, X.clock, hF, ?_, X.hears, X.method, X.code, X.here, X.tail, X.warmed, ?_, ?_, ?_⟩
  · have h := X.room
    have hU : ((T.setVm s.vm).setFrames (.invoking m args :: below)).localsInUse = s.localsInUse := by
      rw [State.localsInUse_invoking hF (meth := meth) (c := c) X.method X.code, State.localsInUse_invoking X.frames X.method X.code]
    simp only [State.hasRoom, Bool.and_eq_true, decide_eq_true_eq] at h ⊢
    obtain ⟨⟨⟨⟨h1, h2, h3, h4, h5, h6⟩, h7⟩, h8⟩, h9⟩ := h
    rw [X.frames, List.length_cons] at h2 h3
    have q1 := X.heapSize
    have q2 := X.used
    simp only [hF, hU, List.length_cons, State.stackLimits_setFrames, State.stackBytes_setFrames, hl9, hb9]
    refine ⟨⟨⟨⟨by omega, by omega, by omega, by omega, by omega, h6⟩, ?_⟩, ?_⟩, X.book⟩
    · show T.heap.size + R'.cells ≤ e.platform.maxCells
      omega
    · show T.slotsUsed + R'.slots ≤ e.platform.maxSlots
      omega
  · rw [State.stackLimits_setFrames]; rfl
  · rw [State.stackBytes_setFrames]; rfl
  · refine ⟨?_, Nat.le_refl _, Nat.le_refl _, ?_, ?_, fun a c9 h9 => ⟨c9, h9, rfl, rfl, fun _ _ => rfl⟩⟩
    · obtain ⟨t, ht, -⟩ := State.frames_cons hr
      show T.setVm s.vm = { ((T.setVm s.vm).setFrames (.invoking m args :: below)).setFrames (T.setVm s.vm).frames with heap := T.heap, slotsUsed := T.slotsUsed }
      rw [State.setFrames_setFrames, State.setFrames_self ht]
      rfl
    · show T.slotsUsed = T.slotsUsed + ((T.heap.toList.drop T.heap.size).map (·.slots.size)).sum
      rw [List.drop_eq_nil_of_le (Nat.le_of_eq Array.length_toList)]
      rfl
    · show ((T.heap.toList.drop T.heap.size).map (·.slots.size)).sum ≤ 0
      rw [List.drop_eq_nil_of_le (Nat.le_of_eq Array.length_toList)]
      exact Nat.le_refl _
/-- 'throw new E()': new; dup; invokespecial; athrow -/
theorem vx_throw0 {cc : ByteArray} {pc : Nat} (hexec : p.tables.exec = Jvm.exec) (hb : c.code = cc) (hl : l.stackTraces = false) {own cls : String} {names : List String} {ik ic mc ms : Nat} {A : Nat → Prop}
    (hown : s.vm.findClass own = some m.cls) (hcls : Bundle.fit cls = true) (hnames : ∀ n ∈ names, Bundle.fit n = true)
    (hk : (Cond.classLink own ik cls).before args s = true) (hini : (Cond.initialized cls).before args s = true) (hat : ∀ w ∈ vx_at0 own ic cls names, w.before args s = true)
    (hgood : ∀ w ∈ Cond.classLink own ik cls :: Cond.initialized cls :: vx_at0 own ic cls names, vx_ot w = true)
    (hU : vx_Zq Bundle.tN "UNASSIGNED_STACK" Bundle.steD A s s.heap) (hN : vx_Zq Bundle.tN "SUPPRESSED_SENTINEL" Bundle.listD A s s.heap) (hS : va_S A s.heap H locs) (hsize : ls.size = c.maxLocals)
    (d0 : decode cc pc = .ok (.new ik, 3)) (d3 : decode cc (pc + 3) = .ok (.dup, 1)) (d4 : decode cc (pc + 4) = .ok (.invokespecial ic, 3)) (d7 : decode cc (pc + 7) = .ok (.athrow, 1))
    (hout : ∀ x ∈ c.exceptionTable.toList, covers x (pc + 7) = false)
    (hRframes : names.length + 3 < R.frames) (hRlocals : (rest.map fun v => v.category).sum + (13 * (names.length + 1) + 42) ≤ R.locals) (hRcells : cells + 1 ≤ R.cells) (hRslots : slots + 6 ≤ R.slots) (hlocks : meth.locks = false)
    (hx : ∀ t : State, s.vm.Alike t.vm → H.size ≤ t.heap.size → (∀ q : Nat, q < H.size → t.heap[q]? = H[q]?) → XC cls s t)
    (hf : ∀ z ∈ locs, free z.base) (hc : cells + 1 ≤ mc) (hs : slots + 6 ≤ ms) :
    W p l e R s m args below meth c H locs cells slots (vx_MQ below Qc XC args s mc ms free) (F0 m pc ls rest) := by
  intro T hT X
  have htr : e.platform.stackTraces = false := (show e.platform.stackTraces = l.stackTraces by rw [X.admits.platform]).trans hl
  have Y := vx_rebase X (R' := { frames := R.frames, locals := R.locals, cells := 1, slots := 6 }) (Nat.le_refl _) (Nat.le_refl _) hRcells hRslots
  obtain ⟨s', hA⟩ : ∃ z, z = (T.setVm s.vm).setFrames (.invoking m args :: below) := ⟨_, rfl⟩
  rw [← hA] at Y
  have hvm : s'.vm = s.vm := by rw [hA]; rfl
  have hhp : s'.heap = H := by rw [hA]; exact hT
  have hW0 : s.WarmedH s'.vm := by rw [hvm]; exact State.WarmedH.refl s
  have hat' : ∀ w ∈ vx_at0 own ic cls names, w.before args s' = true := fun w hw => vx_ot_at hW0 hvm.symm (hgood w (List.mem_cons_of_mem _ (List.mem_cons_of_mem _ hw))) (hat w hw)
  have hk' : (Cond.classLink own ik cls).before args s' = true := vx_ot_at hW0 hvm.symm (hgood _ List.mem_cons_self) hk
  have hini' : (Cond.initialized cls).before args s' = true := vx_ot_at hW0 hvm.symm (hgood _ (List.mem_cons_of_mem _ List.mem_cons_self)) hini
  have hU' : vx_Zq Bundle.tN "UNASSIGNED_STACK" Bundle.steD A s' s'.heap := by rw [hhp]; exact vx_Zq.moved hW0.alike (hU.kept hS.2.1)
  have hN' : vx_Zq Bundle.tN "SUPPRESSED_SENTINEL" Bundle.listD A s' s'.heap := by rw [hhp]; exact vx_Zq.moved hW0.alike (hN.kept hS.2.1)
  have h : ∀ w ∈ Bundle.ownAtoms0 own ic cls names, w.before args s' = true := vx_own hat' (vx_isRefq hU'.1) (vx_isRefq hN'.1) hU'.2.word hN'.2.word
  have hown' : s'.vm.findClass own = some m.cls := by rw [hvm]; exact hown
  have hins : (Cond.instantiable cls 6).before args s' = true := h _ (by simp [Bundle.ownAtoms0])
  obtain ⟨vm₁, cX, kX, hfX, hkX, -, -, X₁, st1⟩ := Y.newCold hexec (own := own) (C := cls) (index := ik) (n := 6) hown' hk' hins hini'
    (g := F0 m pc ls rest) rfl (by rw [hb]; exact d0) (Nat.le_refl _) (Nat.le_refl _)
  generalize hT1 : (T.setVm vm₁).pushCell { cls := cX, slots := kX.instanceTypes.map defaultValue, vm := .none } = T1 at X₁ st1
  have hcat : (Value.ref T.heap.size).category = 1 := rfl
  have hcellA : T1.heap[T.heap.size]? = some (freshCell cX kX) := by rw [← hT1]; exact State.heap_pushCell_size _ _
  have d3' : decode c.code (pc + 3) = .ok (.dup, 1) := by rw [hb]; exact d3
  obtain ⟨U, hsteps, hrun, hend, hW, hsame, ce, hce, hO⟩ := X₁.ctorThrow0 hexec htr (own := own) (cls := cls) (names := names) (ic := ic) hown' hcls hnames h (fun x hx => nomatch hx) hfX hkX hcellA (by rw [hhp, hT]; exact Nat.le_refl _)
    (g := { method := m, pc := pc + 4, locals := ls, stack := .ref T.heap.size :: .ref T.heap.size :: rest, locked := none }) rfl hsize rfl rfl (rest := rest) rfl
    (by rw [hb]; exact d4) (by rw [hb]; exact d7) hout hRframes (by simp only [List.map_cons, List.sum_cons, hcat]; omega) hlocks
  obtain ⟨f1, f2⟩ := vx_frame hsame
  rw [hhp] at f1 f2
  have hWs : s.WarmedH U.vm := State.WarmedH.trans hW0 hW
  have hcl : s.vm.findClass cls = some ce.cls := by
    have h9 := hO.cls
    rw [hvm] at h9
    exact h9
  have hall : s.sameButNew ({ U with vm := s.vm } : State) locs mc ms := by
    subst hA
    obtain ⟨e1, e2⟩ := hsame
    rw [State.setFrames_setFrames] at e1
    have h2 : (T.setVm s.vm).sameButNew ({ U with vm := s.vm } : State) [] (0 + 1) (0 + 6) := ⟨e1, e2⟩
    have h3 := X.same.trans h2
    rw [List.append_nil] at h3
    exact h3.mono hc hs
  refine ⟨U, ?_, .threw T.heap.size, hrun, hend, Or.inr ⟨T.heap.size, rfl, cls, ce, locs, hx U hWs.alike f1 (fun q hq => f2 q hq (fun z hz => nomatch hz)), hce, hO.vm, hcl, hWs, hall, hf⟩⟩
  refine st1 _ ?_
  show Steps p.tables e below (T1.setTop { method := m, pc := pc + 3, locals := ls, stack := .ref T.heap.size :: rest, locked := none }) _
  jvm_step X₁.here [X₁.here.top, hexec, d3', Value.category]
  exact hsteps
/-- 'throw new E("text")': new; dup; ldc; invokespecial; athrow -/
theorem vx_throwS {cc : ByteArray} {pc : Nat} (hexec : p.tables.exec = Jvm.exec) (hb : c.code = cc) (hl : l.stackTraces = false) {own cls text : String} {names : List String} {ik is ic mc ms sa : Nat} {A : Nat → Prop}
    (hown : s.vm.findClass own = some m.cls) (hcls : Bundle.fit cls = true) (hnames : ∀ n ∈ names, Bundle.fit n = true)
    (hk : (Cond.classLink own ik cls).before args s = true) (hini : (Cond.initialized cls).before args s = true) (hstr : vk_R own is text sa s) (hat : ∀ w ∈ vx_atS own ic cls names, w.before args s = true)
    (hgood : ∀ w ∈ Cond.classLink own ik cls :: Cond.initialized cls :: vx_atS own ic cls names, vx_ot w = true)
    (hU : vx_Zq Bundle.tN "UNASSIGNED_STACK" Bundle.steD A s s.heap) (hN : vx_Zq Bundle.tN "SUPPRESSED_SENTINEL" Bundle.listD A s s.heap) (hS : va_S A s.heap H locs) (hsize : ls.size = c.maxLocals)
    (d0 : decode cc pc = .ok (.new ik, 3)) (d3 : decode cc (pc + 3) = .ok (.dup, 1)) (d4 : decode cc (pc + 4) = .ok (.ldc is, 2)) (d6 : decode cc (pc + 6) = .ok (.invokespecial ic, 3)) (d9 : decode cc (pc + 9) = .ok (.athrow, 1))
    (hout : ∀ x ∈ c.exceptionTable.toList, covers x (pc + 9) = false)
    (hRframes : names.length + 3 < R.frames) (hRlocals : (rest.map fun v => v.category).sum + (13 * (names.length + 1) + 43) ≤ R.locals) (hRcells : cells + 1 ≤ R.cells) (hRslots : slots + 6 ≤ R.slots) (hlocks : meth.locks = false)
    (hx : ∀ t : State, s.vm.Alike t.vm → H.size ≤ t.heap.size → (∀ q : Nat, q < H.size → t.heap[q]? = H[q]?) → XC cls s t)
    (hf : ∀ z ∈ locs, free z.base) (hc : cells + 1 ≤ mc) (hs : slots + 6 ≤ ms) :
    W p l e R s m args below meth c H locs cells slots (vx_MQ below Qc XC args s mc ms free) (F0 m pc ls rest) := by
  intro T hT X
  have htr : e.platform.stackTraces = false := (show e.platform.stackTraces = l.stackTraces by rw [X.admits.platform]).trans hl
  have Y := vx_rebase X (R' := { frames := R.frames, locals := R.locals, cells := 1, slots := 6 }) (Nat.le_refl _) (Nat.le_refl _) hRcells hRslots
  obtain ⟨s', hA⟩ : ∃ z, z = (T.setVm s.vm).setFrames (.invoking m args :: below) := ⟨_, rfl⟩
  rw [← hA] at Y
  have hvm : s'.vm = s.vm := by rw [hA]; rfl
  have hhp : s'.heap = H := by rw [hA]; exact hT
  have hW0 : s.WarmedH s'.vm := by rw [hvm]; exact State.WarmedH.refl s
  have hat' : ∀ w ∈ vx_atS own ic cls names, w.before args s' = true := fun w hw => vx_ot_at hW0 hvm.symm (hgood w (List.mem_cons_of_mem _ (List.mem_cons_of_mem _ hw))) (hat w hw)
  have hk' : (Cond.classLink own ik cls).before args s' = true := vx_ot_at hW0 hvm.symm (hgood _ List.mem_cons_self) hk
  have hini' : (Cond.initialized cls).before args s' = true := vx_ot_at hW0 hvm.symm (hgood _ (List.mem_cons_of_mem _ List.mem_cons_self)) hini
  have hU' : vx_Zq Bundle.tN "UNASSIGNED_STACK" Bundle.steD A s' s'.heap := by rw [hhp]; exact vx_Zq.moved hW0.alike (hU.kept hS.2.1)
  have hN' : vx_Zq Bundle.tN "SUPPRESSED_SENTINEL" Bundle.listD A s' s'.heap := by rw [hhp]; exact vx_Zq.moved hW0.alike (hN.kept hS.2.1)
  have h : ∀ w ∈ Bundle.ownAtoms own ic cls names, w.before args s' = true := vx_own hat' (vx_isRefq hU'.1) (vx_isRefq hN'.1) hU'.2.word hN'.2.word
  have hown' : s'.vm.findClass own = some m.cls := by rw [hvm]; exact hown
  have hins : (Cond.instantiable cls 6).before args s' = true := h _ (by simp [Bundle.ownAtoms])
  obtain ⟨vm₁, cX, kX, hfX, hkX, -, -, X₁, st1⟩ := Y.newCold hexec (own := own) (C := cls) (index := ik) (n := 6) hown' hk' hins hini'
    (g := F0 m pc ls rest) rfl (by rw [hb]; exact d0) (Nat.le_refl _) (Nat.le_refl _)
  generalize hT1 : (T.setVm vm₁).pushCell { cls := cX, slots := kX.instanceTypes.map defaultValue, vm := .none } = T1 at X₁ st1
  have hcat : (Value.ref T.heap.size).category = 1 := rfl
  have hcellA : T1.heap[T.heap.size]? = some (freshCell cX kX) := by rw [← hT1]; exact State.heap_pushCell_size _ _
  have d3' : decode c.code (pc + 3) = .ok (.dup, 1) := by rw [hb]; exact d3
  have d4' : decode c.code (pc + 4) = .ok (.ldc is, 2) := by rw [hb]; exact d4
  have hstr' : vk_R own is text sa s' := vk_R.warm hW0 hstr
  obtain ⟨U, hsteps, hrun, hend, hW, hsame, ce, hce, hO⟩ := X₁.ctorThrowS hexec htr (own := own) (cls := cls) (names := names) (ic := ic) hown' hcls hnames h (fun x hx => nomatch hx) hfX hkX hcellA (by rw [hhp, hT]; exact Nat.le_refl _) (msg := .ref sa) rfl
    (g := { method := m, pc := pc + 6, locals := ls, stack := .ref sa :: .ref T.heap.size :: .ref T.heap.size :: rest, locked := none }) rfl hsize rfl rfl (rest := rest) rfl
    (by rw [hb]; exact d6) (by rw [hb]; exact d9) hout hRframes (by simp only [List.map_cons, List.sum_cons, hcat]; omega) hlocks
  obtain ⟨f1, f2⟩ := vx_frame hsame
  rw [hhp] at f1 f2
  have hWs : s.WarmedH U.vm := State.WarmedH.trans hW0 hW
  have hcl : s.vm.findClass cls = some ce.cls := by
    have h9 := hO.cls
    rw [hvm] at h9
    exact h9
  have hall : s.sameButNew ({ U with vm := s.vm } : State) locs mc ms := by
    subst hA
    obtain ⟨e1, e2⟩ := hsame
    rw [State.setFrames_setFrames] at e1
    have h2 : (T.setVm s.vm).sameButNew ({ U with vm := s.vm } : State) [] (0 + 1) (0 + 6) := ⟨e1, e2⟩
    have h3 := X.same.trans h2
    rw [List.append_nil] at h3
    exact h3.mono hc hs
  refine ⟨U, ?_, .threw T.heap.size, hrun, hend, Or.inr ⟨T.heap.size, rfl, cls, ce, locs, hx U hWs.alike f1 (fun q hq => f2 q hq (fun z hz => nomatch hz)), hce, hO.vm, hcl, hWs, hall, hf⟩⟩
  refine st1 _ ?_
  show Steps p.tables e below (T1.setTop { method := m, pc := pc + 3, locals := ls, stack := .ref T.heap.size :: rest, locked := none }) _
  jvm_step X₁.here [X₁.here.top, hexec, d3', Value.category]
  exact X₁.ldcString hexec (own := own) (text := text) (index := is) (a := sa) hown' hstr'.1 hstr'.2
    (g := { method := m, pc := pc + 4, locals := ls, stack := .ref T.heap.size :: .ref T.heap.size :: rest, locked := none }) rfl d4' _ hsteps
/-- 'throw new E("text")', the text by a wide index -/
theorem vx_throwSW {cc : ByteArray} {pc : Nat} (hexec : p.tables.exec = Jvm.exec) (hb : c.code = cc) (hl : l.stackTraces = false) {own cls text : String} {names : List String} {ik is ic mc ms sa : Nat} {A : Nat → Prop}
    (hown : s.vm.findClass own = some m.cls) (hcls : Bundle.fit cls = true) (hnames : ∀ n ∈ names, Bundle.fit n = true)
    (hk : (Cond.classLink own ik cls).before args s = true) (hini : (Cond.initialized cls).before args s = true) (hstr : vk_R own is text sa s) (hat : ∀ w ∈ vx_atS own ic cls names, w.before args s = true)
    (hgood : ∀ w ∈ Cond.classLink own ik cls :: Cond.initialized cls :: vx_atS own ic cls names, vx_ot w = true)
    (hU : vx_Zq Bundle.tN "UNASSIGNED_STACK" Bundle.steD A s s.heap) (hN : vx_Zq Bundle.tN "SUPPRESSED_SENTINEL" Bundle.listD A s s.heap) (hS : va_S A s.heap H locs) (hsize : ls.size = c.maxLocals)
    (d0 : decode cc pc = .ok (.new ik, 3)) (d3 : decode cc (pc + 3) = .ok (.dup, 1)) (d4 : decode cc (pc + 4) = .ok (.ldc_w is, 3)) (d7 : decode cc (pc + 7) = .ok (.invokespecial ic, 3)) (d10 : decode cc (pc + 10) = .ok (.athrow, 1))
    (hout : ∀ x ∈ c.exceptionTable.toList, covers x (pc + 10) = false)
    (hRframes : names.length + 3 < R.frames) (hRlocals : (rest.map fun v => v.category).sum + (13 * (names.length + 1) + 43) ≤ R.locals) (hRcells : cells + 1 ≤ R.cells) (hRslots : slots + 6 ≤ R.slots) (hlocks : meth.locks = false)
    (hx : ∀ t : State, s.vm.Alike t.vm → H.size ≤ t.heap.size → (∀ q : Nat, q < H.size → t.heap[q]? = H[q]?) → XC cls s t)
    (hf : ∀ z ∈ locs, free z.base) (hc : cells + 1 ≤ mc) (hs : slots + 6 ≤ ms) :
    W p l e R s m args below meth c H locs cells slots (vx_MQ below Qc XC args s mc ms free) (F0 m pc ls rest) := by
  intro T hT X
  have htr : e.platform.stackTraces = false := (show e.platform.stackTraces = l.stackTraces by rw [X.admits.platform]).trans hl
  have Y := vx_rebase X (R' := { frames := R.frames, locals := R.locals, cells := 1, slots := 6 }) (Nat.le_refl _) (Nat.le_refl _) hRcells hRslots
  obtain ⟨s', hA⟩ : ∃ z, z = (T.setVm s.vm).setFrames (.invoking m args :: below) := ⟨_, rfl⟩
  rw [← hA] at Y
  have hvm : s'.vm = s.vm := by rw [hA]; rfl
  have hhp : s'.heap = H := by rw [hA]; exact hT
  have hW0 : s.WarmedH s'.vm := by rw [hvm]; exact State.WarmedH.refl s
  have hat' : ∀ w ∈ vx_atS own ic cls names, w.before args s' = true := fun w hw => vx_ot_at hW0 hvm.symm (hgood w (List.mem_cons_of_mem _ (List.mem_cons_of_mem _ hw))) (hat w hw)
  have hk' : (Cond.classLink own ik cls).before args s' = true := vx_ot_at hW0 hvm.symm (hgood _ List.mem_cons_self) hk
  have hini' : (Cond.initialized cls).before args s' = true := vx_ot_at hW0 hvm.symm (hgood _ (List.mem_cons_of_mem _ List.mem_cons_self)) hini
  have hU' : vx_Zq Bundle.tN "UNASSIGNED_STACK" Bundle.steD A s' s'.heap := by rw [hhp]; exact vx_Zq.moved hW0.alike (hU.kept hS.2.1)
  have hN' : vx_Zq Bundle.tN "SUPPRESSED_SENTINEL" Bundle.listD A s' s'.heap := by rw [hhp]; exact vx_Zq.moved hW0.alike (hN.kept hS.2.1)
  have h : ∀ w ∈ Bundle.ownAtoms own ic cls names, w.before args s' = true := vx_own hat' (vx_isRefq hU'.1) (vx_isRefq hN'.1) hU'.2.word hN'.2.word
  have hown' : s'.vm.findClass own = some m.cls := by rw [hvm]; exact hown
  have hins : (Cond.instantiable cls 6).before args s' = true := h _ (by simp [Bundle.ownAtoms])
  obtain ⟨vm₁, cX, kX, hfX, hkX, -, -, X₁, st1⟩ := Y.newCold hexec (own := own) (C := cls) (index := ik) (n := 6) hown' hk' hins hini'
    (g := F0 m pc ls rest) rfl (by rw [hb]; exact d0) (Nat.le_refl _) (Nat.le_refl _)
  generalize hT1 : (T.setVm vm₁).pushCell { cls := cX, slots := kX.instanceTypes.map defaultValue, vm := .none } = T1 at X₁ st1
  have hcat : (Value.ref T.heap.size).category = 1 := rfl
  have hcellA : T1.heap[T.heap.size]? = some (freshCell cX kX) := by rw [← hT1]; exact State.heap_pushCell_size _ _
  have d3' : decode c.code (pc + 3) = .ok (.dup, 1) := by rw [hb]; exact d3
  have d4' : decode c.code (pc + 4) = .ok (.ldc_w is, 3) := by rw [hb]; exact d4
  have hstr' : vk_R own is text sa s' := vk_R.warm hW0 hstr
  obtain ⟨U, hsteps, hrun, hend, hW, hsame, ce, hce, hO⟩ := X₁.ctorThrowS hexec htr (own := own) (cls := cls) (names := names) (ic := ic) hown' hcls hnames h (fun x hx => nomatch hx) hfX hkX hcellA (by rw [hhp, hT]; exact Nat.le_refl _) (msg := .ref sa) rfl
    (g := { method := m, pc := pc + 7, locals := ls, stack := .ref sa :: .ref T.heap.size :: .ref T.heap.size :: rest, locked := none }) rfl hsize rfl rfl (rest := rest) rfl
    (by rw [hb]; exact d7) (by rw [hb]; exact d10) hout hRframes (by simp only [List.map_cons, List.sum_cons, hcat]; omega) hlocks
  obtain ⟨f1, f2⟩ := vx_frame hsame
  rw [hhp] at f1 f2
  have hWs : s.WarmedH U.vm := State.WarmedH.trans hW0 hW
  have hcl : s.vm.findClass cls = some ce.cls := by
    have h9 := hO.cls
    rw [hvm] at h9
    exact h9
  have hall : s.sameButNew ({ U with vm := s.vm } : State) locs mc ms := by
    subst hA
    obtain ⟨e1, e2⟩ := hsame
    rw [State.setFrames_setFrames] at e1
    have h2 : (T.setVm s.vm).sameButNew ({ U with vm := s.vm } : State) [] (0 + 1) (0 + 6) := ⟨e1, e2⟩
    have h3 := X.same.trans h2
    rw [List.append_nil] at h3
    exact h3.mono hc hs
  refine ⟨U, ?_, .threw T.heap.size, hrun, hend, Or.inr ⟨T.heap.size, rfl, cls, ce, locs, hx U hWs.alike f1 (fun q hq => f2 q hq (fun z hz => nomatch hz)), hce, hO.vm, hcl, hWs, hall, hf⟩⟩
  refine st1 _ ?_
  show Steps p.tables e below (T1.setTop { method := m, pc := pc + 3, locals := ls, stack := .ref T.heap.size :: rest, locked := none }) _
  jvm_step X₁.here [X₁.here.top, hexec, d3', Value.category]
  exact X₁.ldcStringW hexec (own := own) (text := text) (index := is) (a := sa) hown' hstr'.1 hstr'.2
    (g := { method := m, pc := pc + 4, locals := ls, stack := .ref T.heap.size :: .ref T.heap.size :: rest, locked := none }) rfl d4' _ hsteps
end Ends
section Bodies
variable {l : Launch}
theorem vx_ofW {y : MethodName} {ws ws' : List Cond} {rm : Room} {Pc : Array Value → State → Prop} {Qc : Array Value → State → Outcome → State → Prop} {XC : String → State → State → Prop} {mc ms : Nat} {free : Addr → Prop} {cc : ByteArray} {maxL : Nat} {ret : Option FieldType}
    (hy : plainName y.cls = true) (hw : ws = Cond.code y cc maxL ret :: ws')
    (body : ∀ p e s m args below meth c s₁, BodyLoose p l y (headSpec ws rm) cc maxL ret e s m args below meth c s₁ → c.maxLocals = maxL → (∀ x ∈ c.exceptionTable.toList, False) → Pc args s →
      W p l e (headSpec ws rm).room s m args below meth c s.heap [] 0 0 (vx_MQ below Qc XC args s mc ms free) (entryFrame m args maxL)) : vx_Met l y ws rm Pc Qc XC mc ms free := by
  refine MetFree.of_bodyS (code := cc) (maxLocals := maxL) (ret := ret) hy ?_ ?_
  · intro args s m h hn
    obtain ⟨meth, c, h1, h2, h3, h4, h5, h6, -, -⟩ := Cond.code_spec hn (atoms_spec (ws := ws) h _ (by rw [hw]; exact List.mem_cons_self))
    exact ⟨meth, c, h1, h2, h3, h4, h5, h6⟩
  · intro p e s m args below meth c s₁ B hml hP _
    have hh0 : s₁.heap = s.heap := by rw [B.state]; rfl
    have ht : ∀ x ∈ c.exceptionTable.toList, False := by
      obtain ⟨meth9, c9, h1, h2, -, -, -, -, h7, -⟩ := Cond.code_spec B.named (atoms_spec (ws := ws) B.pre _ (by rw [hw]; exact List.mem_cons_self))
      cases Option.some.inj (h1.symm.trans B.method)
      cases Option.some.inj (h2.symm.trans (Stand.of_body B).code)
      intro x hx
      rw [Array.isEmpty_iff.mp h7] at hx
      cases hx
    obtain ⟨t, a1, o, b1, b2, b3⟩ := body p e s m args below meth c s₁ B hml ht hP s₁ hh0 (Stand.of_body B)
    exact ⟨t, o, a1, b1, b2, b3⟩
/-- the table of a body with handlers -/
theorem vx_table {p : Program} {x y : MethodName} {S : Spec} {cc bytes : ByteArray} {maxL maxL' : Nat} {ret ret' : Option FieldType} {e : Env} {s s₁ : State} {m : MethodId} {args : Array Value} {below : List Frame} {meth : Method} {c : Code} {hh : List (Nat × Nat × Nat × Nat)}
    (B : BodyLoose p l y S cc maxL ret e s m args below meth c s₁) (h : (Cond.codeWith y bytes maxL' ret' hh).before args s = true) : c.exceptionTable.toList = tableOf hh := by
  obtain ⟨m9, meth9, c9, hn9, h1, h2, -, -, h6, -⟩ := Cond.codeWith_spec h
  cases Option.some.inj (hn9.symm.trans B.named)
  cases Option.some.inj (h1.symm.trans B.method)
  cases Option.some.inj (h2.symm.trans (Stand.of_body B).code)
  rw [← h6, table_eq]
end Bodies
end VXA
/-! ===== END ===== -/
/-! ===== BEGIN a static call of a method with an exception table ===== -/
section VXS
variable {p : Program} {l : Launch} {e : Env} {R : Room} {s : State} {m : MethodId} {args : Array Value} {below : List Frame} {meth : Method} {c : Code} {T : State} {H : Heap} {locs : List Loc} {cells slots : Nat}
abbrev vx_CSW (R : Room) (s : State) (args : Array Value) (own : String) (index : Nat) (y : MethodName) (bytes : ByteArray) (maxL : Nat) (ret : Option FieldType) (hh : List (Nat × Nat × Nat × Nat)) (ws : List Cond) (rm : Room) (mc ms n : Nat) : Prop :=
  (rm.cells = mc ∧ rm.slots = ms ∧ rm.frames + 1 ≤ R.frames ∧ 8 + (maxL + 11) + rm.locals ≤ R.locals ∧ (∀ w ∈ ws, ∀ (a' : Array Value) (U : State), s.WarmedH U.vm → w.before a' U = true) ∧ Cond.codeWith y bytes maxL ret hh ∈ ws) ∧
  (Cond.codeWith y bytes maxL ret hh).before args s = true ∧ (Cond.initialized y.cls).before args s = true ∧ (y.cls ≠ "java/lang/invoke/MethodHandle" ∧ y.cls ≠ "java/lang/invoke/VarHandle") ∧
  (∀ sig, parseMethodDescriptor y.desc = some sig → n = sig.parameters.length) ∧ (Cond.methodLink own index y).before args s = true ∧ (Cond.static y).before args s = true
theorem vx_cwSW {own : String} {index maxL mc ms : Nat} {y : MethodName} {bytes : ByteArray} {ret : Option FieldType} {hh : List (Nat × Nat × Nat × Nat)} {Ts ws ws' : List Cond} {rm : Room} (n : Nat) (ht : ∀ w ∈ Ts, w.before args s = true) (hT : GoodIn Ts (va_wsS own index y ws)) (hw : ws = Cond.codeWith y bytes maxL ret hh :: ws') (hrc : rm.cells = mc) (hrs : rm.slots = ms)
    (hd : y.cls ≠ "java/lang/invoke/MethodHandle" ∧ y.cls ≠ "java/lang/invoke/VarHandle" ∧ (parseMethodDescriptor y.desc).map (fun d => d.parameters.length) = some n) (hR : rm.frames + 1 ≤ R.frames ∧ 8 + (maxL + 11) + rm.locals ≤ R.locals) :
    vx_CSW R s args own index y bytes maxL ret hh ws rm mc ms n := by
  have ok : ∀ w ∈ va_wsS own index y ws, w.before args s = true := fun w h => ht w (hT w h).1
  have hG : GoodIn Ts ws := fun w h => hT w (by unfold va_wsS; exact List.mem_append_right _ h)
  have hc : Cond.codeWith y bytes maxL ret hh ∈ ws := by rw [hw]; exact List.mem_cons_self
  refine ⟨⟨hrc, hrs, hR.1, hR.2, pay_in ht hG, hc⟩, ht _ (hG _ hc).1, ok _ (by simp [va_wsS]), ⟨hd.1, hd.2.1⟩, fun sig h => ?_, ok _ (by simp [va_wsS]), ok _ (by simp [va_wsS])⟩
  have h2 := hd.2.2
  rw [h] at h2
  exact (Option.some.inj h2).symm
theorem vx_callSW (X : Stand p l e R s m args below meth c T locs cells slots) (hexec : p.tables.exec = Jvm.exec) {own : String} {index : Nat} {y : MethodName} {bytes : ByteArray} {maxL : Nat} {ret : Option FieldType} {hh : List (Nat × Nat × Nat × Nat)}
    (hown : s.vm.findClass own = some m.cls) (hlink : (Cond.methodLink own index y).before args s = true) (hstat : (Cond.static y).before args s = true) (hinit : (Cond.initialized y.cls).before args s = true)
    (hcode : (Cond.codeWith y bytes maxL ret hh).before args s = true) (hy : y.cls ≠ "java/lang/invoke/MethodHandle" ∧ y.cls ≠ "java/lang/invoke/VarHandle")
    {W9 : Nat} {Pre : Pt → Array Value → Prop} {Post : Pt → Array Value → Option Value → Pt → Prop} (hK : Back l R p e below s args y 3 W9 Pre Post)
    {g : JFrame} (hg : g.method = m) (hsize : g.locals.size = c.maxLocals) {argsL rest : List Value} (hlen : ∀ sig, parseMethodDescriptor y.desc = some sig → argsL.length = sig.parameters.length)
    (hstack : g.stack = argsL.reverse ++ rest) (hW : 2 * g.monitorRoom + (rest.map fun v => v.category).sum ≤ W9) (hdg : decode c.code g.pc = .ok (.invokestatic index, 3))
    (hpre : ∀ vm₁, s.WarmedH vm₁ → Pre ⟨T.setVm vm₁, locs, cells, slots⟩ argsL.toArray) :
    ∃ (v : Option Value) (vm₁ : Vm) (B : Pt), s.WarmedH vm₁ ∧ Stand p l e R s m args below meth c B.U B.locs B.cells B.slots ∧ Post ⟨T.setVm vm₁, locs, cells, slots⟩ argsL.toArray v B ∧
      ∀ target, Steps p.tables e below (B.U.setTop { g with pc := g.pc + 3, stack := v.toList ++ rest }) target → Steps p.tables e below (T.setTop g) target := by
  obtain ⟨mk, methM, cM, hnamed, hmethM, -, -, -, -, -, -, hsigM⟩ := Cond.codeWith_spec hcode
  have hstatic : methM.isStatic = true := Cond.static_spec hnamed hmethM hstat
  obtain ⟨kP, hkP, -⟩ := className_of_methodNamed hnamed
  have hinitP : kP.init = .initialized := Cond.initialized_spec (findClass_of_methodNamed hnamed) hkP hinit
  obtain ⟨vm₁, X₁, hstep₁⟩ := X.invokestatic hexec hown hlink hnamed hmethM hstatic hkP hinitP hy (g := g) hg (argsL := argsL) (rest := rest) (hlen _ hsigM) hstack hdg
  obtain ⟨v, B, X', hpost, hsteps⟩ := hK m meth c ⟨T.setVm vm₁, locs, cells, slots⟩ { g with stack := rest } (.invokestatic index) mk argsL.toArray X₁ hg hsize hdg hW (X₁.named hnamed) (hpre vm₁ X₁.warmed)
  exact ⟨v, vm₁, B, X₁.warmed, X', hpost, fun target h => hstep₁ _ fun acts => by rw [doInvoke_state]; exact hsteps.trans h⟩
theorem vx_runSW {y : MethodName} {bytes cc : ByteArray} {maxL nL mc ms n index : Nat} {ret : Option FieldType} {hh : List (Nat × Nat × Nat × Nat)} {ws : List Cond} {rm : Room} {Pc : Array Value → State → Prop} {Qc : Array Value → State → Outcome → State → Prop} {free : Addr → Prop} {Ts : List Cond} {own : String} {As rest : List Value} {g : JFrame}
    (S : CallFix p m c cc nL s args Ts own) (hM : Met l y ws rm Pc Qc mc ms free) (cw : vx_CSW R s args own index y bytes maxL ret hh ws rm mc ms n) (hp : PreS s H Pc As)
    (hg : g.method = m) (hn : As.length = n) (hsize : g.locals.size = nL) (hstack : g.stack = As.reverse ++ rest) (hW : 2 * g.monitorRoom + (rest.map fun v => v.category).sum ≤ 8) (hdg : decode cc g.pc = .ok (.invokestatic index, 3)) (hf : cells + mc ≤ R.cells ∧ slots + ms ≤ R.slots) :
    va_Run p l e R s m args below meth c H locs cells slots mc ms g rest (Qc As.toArray) (free) := by
  obtain ⟨⟨hrc, hrs, hfr, hlo, hws, hcw⟩, hcode, hini, hy, hlen, hl, hstt⟩ := cw
  have hK : Back l R p e below s args y 3 8 (PreOf R mc ms Pc) (PostOf Qc mc ms free) := va_backW (hh := hh) (bytes := bytes) (maxL := maxL) (ret := ret) hM hp.1 hrc hrs hfr hlo hws hcw (fun a' U hW => word_at hW (Or.inl (by first | rfl | simp [Cond.onTables, Cond.keeps, Cond.steady])) hini)
  obtain ⟨hx, hb, hml, ho, -⟩ := S
  intro T hT X
  obtain ⟨v, vm₁, ⟨U', l2, c2, s2⟩, hW₁, X', ⟨g', mk, t, L, e1, e2, hq, h1, hL, h2, h3⟩, st⟩ := vx_callSW X hx (hh := hh) (bytes := bytes) (maxL := maxL) (ret := ret) ho hl hstt hini hcode hy hK hg (hsize.trans hml.symm) (argsL := As) (rest := rest) (fun sig h => hn.trans (hlen sig h)) hstack hW (by rw [hb]; exact hdg)
    (fun vm₁ hW₁ => ⟨hf.1, hf.2, hp.2 (T.setVm vm₁) hT hW₁⟩)
  dsimp only [Pt.U, Pt.locs, Pt.cells, Pt.slots] at X' e1 e2 h1 h2 h3 st
  subst h1; subst h2; subst h3
  exact ⟨v, (T.setVm vm₁).calling g' mk As.toArray, t, U', L, hT, X', hL, e1, e2, hq, st⟩
/-- not caught here, past rows that name other classes: it goes on to the caller -/
theorem vx_outP {p : Program} {l : Launch} {e : Env} {R : Room} {s : State} {m : MethodId} {args : Array Value} {below : List Frame} {meth : Method} {c : Code} {H : Heap} {locs : List Loc} {cells slots : Nat} {free : Addr → Prop} {ls : Array Slot} {rest : List Value} {Qc : Array Value → State → Outcome → State → Prop} {XC : String → State → State → Prop}
    {pc : Nat} {own E : String} {ce : Cell} {q : Addr} {mc ms : Nat} (hown : s.vm.findClass own = some m.cls) (hlocks : meth.locks = false)
    (hpass : ∀ z ∈ c.exceptionTable.toList, covers z pc = false ∨ (z.catchType ≠ 0 ∧ ∃ nm : String, (Cond.classLink own z.catchType nm).before args s = true ∧ va_Nc E nm s)) (hcell : H[q]? = some ce) (hv : ce.vm = .none) (hcl : s.vm.findClass E = some ce.cls)
    (hx : ∀ t : State, t.heap = H → s.vm.Alike t.vm → XC E s t) (hf : ∀ z ∈ locs, free z.base) (hc : cells ≤ mc) (hs : slots ≤ ms) :
    vx_W p l e R s m args below meth c H locs cells slots (vx_MQ below Qc XC args s mc ms free) (F0 m pc ls rest) q := by
  intro T hT X
  have hpl : e.platform.magicAccessors = ({} : Platform).magicAccessors := by rw [X.admits.platform]
  obtain ⟨vm', hW', X', st⟩ := X.outThrough hlocks q (g := F0 m pc ls rest) rfl rfl rfl (cell := ce) (by rw [hT]; exact hcell) (by rw [hv]; rfl)
    (by obtain ⟨k9, h9, -⟩ := Vm.findClass_spec hcl; exact ⟨k9, h9⟩) (fun z hz => by
      rcases hpass z hz with h | ⟨hz0, nm, hl1, hn1⟩
      · exact Or.inl h
      · obtain ⟨c6, hc6, hcl6⟩ := Cond.classLink_spec hown hl1 e.platform hpl
        obtain ⟨a8, b8, h1, h2, h3⟩ := hn1
        cases Option.some.inj (h1.symm.trans hcl)
        cases Option.some.inj (h2.symm.trans hc6)
        exact Or.inr ⟨hz0, _, hcl6, h3⟩)
  obtain ⟨g₀, hfr⟩ := X'.frames_eq
  have hcell9 : ((T.setVm vm').setFrames (.throwing q :: below)).heap[q]? = some ce := by
    show T.heap[q]? = some ce
    rw [hT]; exact hcell
  have hend : Ended ((T.setVm vm').setFrames (.throwing q :: below)) below (.threw q) := State.frames_setFrames _ (State.cur_lt_of_frames hfr)
  refine ⟨(T.setVm vm').setFrames (.throwing q :: below), ?_, .threw q, X'.here.running, hend, Or.inr ⟨q, rfl, E, ce, locs, hx _ hT (X'.ends _).1.alike, hcell9, hv, hcl, (X'.ends _).1, (X'.ends _).2.mono hc hs, hf⟩⟩
  rw [X.pushThrowing_eq]
  exact st
/-- a thing of a world lies in the heap -/
theorem vx_lt {D : va_G} {cl : List vw_C} {ws : va_W} {H1 : Heap} (h : va_P D cl ws H1) {k : Nat} {q : Nat × va_E} (hk : ws[k]? = some q) : q.1 < H1.size := (h k q hk).lt
end VXS
/-! ===== END ===== -/
/-! ===== BEGIN methods with a table of their own: called by a name, returning or throwing ===== -/
section VXH
/-! vx_backW, vx_callVX, vx_callSX, vx_callVW, vx_runVW, vx_runVX, vx_runSX, vx_ofWH follow the same proofs as their sisters above (Free/Laws.lean, Shelf42/LK1.lean); vx_outP calls Shelf42/NT130.lean (outThrough). -/
section
variable {l : Launch} {R : Room} {p : Program} {e : Env} {below : List Frame} {s : State} {sargs : Array Value} {y : MethodName} {len W9 : Nat}
theorem vx_backW {ws : List Cond} {rm : Room} {Pc : Array Value → State → Prop} {Qc : Array Value → State → Outcome → State → Prop} {XC : String → State → State → Prop} {mc ms : Nat} {free : Addr → Prop} {bytes : ByteArray} {maxL : Nat} {ret : Option FieldType} {hh : List (Nat × Nat × Nat × Nat)}
    (hM : vx_Met l y ws rm Pc Qc XC mc ms free) (hblind : FrameBlind Pc) (hrc : rm.cells = mc) (hrs : rm.slots = ms)
    (hframes : rm.frames + 1 ≤ R.frames) (hlocals : W9 + (maxL + 11) + rm.locals ≤ R.locals)
    (hws : ∀ w ∈ ws, ∀ a' U, s.WarmedH U.vm → w.before a' U = true) (hcode : Cond.codeWith y bytes maxL ret hh ∈ ws) (hinit : ∀ a' U, s.WarmedH U.vm → (Cond.initialized y.cls).before a' U = true) :
    vx_Back l R p e below s sargs y len W9 (PreOf R mc ms Pc) (PostOf Qc mc ms free) (vx_Post XC mc ms free) := by
  intro m meth c A g ig mk a X hg hsize hdg hW hn hp
  have h1 : (headSpec ws rm).pre.before a A.U = true := atoms_intro fun w hw => hws w hw _ _ X.warmed
  have h2 : (Cond.codeWith y bytes maxL ret hh).before a A.U = true := hws _ hcode _ _ X.warmed
  have h3 : (Cond.initialized y.cls).before a A.U = true := hinit _ _ X.warmed
  have h4 : A.cells + (headSpec ws rm).room.cells ≤ R.cells := by rw [show (headSpec ws rm).room.cells = mc from hrc]; exact hp.1
  have h5 : A.slots + (headSpec ws rm).room.slots ≤ R.slots := by rw [show (headSpec ws rm).room.slots = ms from hrs]; exact hp.2.1
  have hPc : Pc a (A.U.calling g mk a) := hblind _ _ _ _ hp.2.2
  obtain ⟨U, Ls, c0, s0⟩ := A
  dsimp only [Pt.U, Pt.locs, Pt.cells, Pt.slots] at h1 h2 h3 h4 h5 X hn hPc ⊢
  obtain ⟨m9, methY, cY, hn9, hmY, hcY, -, hlY, -⟩ := Cond.codeWith_spec h2
  cases Option.some.inj (hn9.symm.trans hn)
  obtain ⟨kY, hkY, -⟩ := className_of_methodNamed hn
  have hinitY : kY.init = .initialized := Cond.initialized_spec (findClass_of_methodNamed hn) hkY h3
  have h : At U g.method c below := by rw [hg]; exact X.here
  have hlocals9 : W9 + (maxL + 11) + (headSpec ws rm).room.locals ≤ R.locals := hlocals
  have happ : (headSpec ws rm).appliesLoose y e.platform (U.calling g mk a) = true :=
    Spec.appliesLoose_calling (g := g) h hdg hn hkY hinitY
      (X.room_calling (g := g) (R' := (headSpec ws rm).room) hsize hmY hcY hframes (by rw [hlY]; omega) h4 h5) h1
  obtain ⟨mid, hmid⟩ := h.above
  have hfr : (U.setTop g).frames = (.java g :: mid) ++ below := by rw [State.frames_setTop' g h.top, hmid]; rfl
  obtain ⟨o, s₂, hsteps, -, hend, hq⟩ := Steps.callFree hM p X.admits X.cas X.clock (acts := []) hfr happ hPc trivial
  have hq' : vx_Q Qc XC mc ms free a (U.calling g mk a) o s₂ := hq
  rw [State.frames_setTop' g h.top] at hend
  obtain ⟨g₀, hg0⟩ := Option.isSome_iff_exists.mp h.top
  obtain ⟨r, hr⟩ := State.topJava?_eq_some.mp hg0
  have hr' : (({ U with heap := s₂.heap, slotsUsed := s₂.slotsUsed } : State).setVm s₂.vm).frames = .java g₀ :: r := hr
  rcases hq' with ⟨hqc, L, hfe, hL⟩ | ⟨q, rfl, E, ce, L, hx, hce, hcv, hcl, hW₂, hsm, hL⟩
  · obtain ⟨⟨v, rfl⟩, hW₂, e2, q2, q3, q4, q5, q6⟩ := id hfe
    have e3 : s₂ = ({ (U.calling g mk a).setFrames s₂.frames with heap := s₂.heap, slotsUsed := s₂.slotsUsed } : State).setVm s₂.vm := by
      have : s₂ = ({ s₂ with vm := (U.calling g mk a).vm } : State).setVm s₂.vm := rfl
      rw [e2] at this
      exact this
    obtain ⟨c₂, i₂, len₂, hc₂, hd₂, hf₂⟩ := hend
    have hW' : U.WarmedH s₂.vm := hW₂
    have hcc : c₂ = c := by
      have h1 : s₂.code? g.method = U.code? g.method := by
        rw [State.code?_eq, State.code?_eq, hW'.alike.method?]
      exact Option.some.inj (hc₂.symm.trans (h1.trans h.code))
    subst hcc
    have hlen : len₂ = len := by rw [hdg] at hd₂; cases hd₂; rfl
    subst hlen
    have hs₂ : s₂ = (({ U with heap := s₂.heap, slotsUsed := s₂.slotsUsed } : State).setVm s₂.vm).setTop { g with pc := g.pc + len₂, stack := v.toList ++ g.stack } := by
      refine e3.trans ?_
      rw [hf₂, State.calling_eq h.top, State.setFrames_setFrames, State.setTop_of_frames _ hr', hr]
      rfl
    have hsame : U.sameButNew ({ U with heap := s₂.heap, slotsUsed := s₂.slotsUsed } : State) L mc ms := by
      refine ⟨?_, q2, q3, q4, q5, q6⟩
      obtain ⟨t, ht, -⟩ := State.frames_cons hr
      show ({ U with heap := s₂.heap, slotsUsed := s₂.slotsUsed } : State) = { U.setFrames U.frames with heap := s₂.heap, slotsUsed := s₂.slotsUsed }
      rw [State.setFrames_self ht]
    subst hg
    refine Or.inl ⟨v, ⟨(({ U with heap := s₂.heap, slotsUsed := s₂.slotsUsed } : State).setVm s₂.vm), Ls ++ L, c0 + mc, s0 + ms⟩,
      ⟨X.admits, X.cas, X.clock, X.frames, X.room, X.hears, X.method, X.code, (X.here.setHeapUsed s₂.heap s₂.slotsUsed).setVm hW'.alike, X.tail, State.WarmedH.trans X.warmed hW', X.limits, X.bytes, X.same.trans (hsame.setVm s.vm)⟩,
      ⟨g, mk, s₂, L, rfl, rfl, hqc, rfl, hL, rfl, rfl⟩, ?_⟩
    show Steps p.tables e below _ ((({ U with heap := s₂.heap, slotsUsed := s₂.slotsUsed } : State).setVm s₂.vm).setTop { g with pc := g.pc + len₂, stack := v.toList ++ g.stack })
    rw [← hs₂]
    exact hsteps
  · obtain ⟨e2, q2, q3, q4, q5, q6⟩ := id hsm
    have e3 : s₂ = ({ (U.calling g mk a).setFrames s₂.frames with heap := s₂.heap, slotsUsed := s₂.slotsUsed } : State).setVm s₂.vm := by
      have : s₂ = ({ s₂ with vm := (U.calling g mk a).vm } : State).setVm s₂.vm := rfl
      rw [e2] at this
      exact this
    have hf₂ : s₂.frames = .throwing q :: .java g :: U.frames.tail := hend
    have hW' : U.WarmedH s₂.vm := hW₂
    have hs₂ : s₂ = ((({ U with heap := s₂.heap, slotsUsed := s₂.slotsUsed } : State).setVm s₂.vm).setTop g).pushFrame (.throwing q) := by
      refine e3.trans ?_
      rw [hf₂, State.calling_eq h.top, State.setFrames_setFrames, State.pushFrame, State.frames_setTop _ hr', State.setTop_of_frames _ hr', State.setFrames_setFrames, hr]
      rfl
    have hsame : U.sameButNew ({ U with heap := s₂.heap, slotsUsed := s₂.slotsUsed } : State) L mc ms := by
      refine ⟨?_, q2, q3, q4, q5, q6⟩
      obtain ⟨t, ht, -⟩ := State.frames_cons hr
      show ({ U with heap := s₂.heap, slotsUsed := s₂.slotsUsed } : State) = { U.setFrames U.frames with heap := s₂.heap, slotsUsed := s₂.slotsUsed }
      rw [State.setFrames_self ht]
    subst hg
    refine Or.inr ⟨q, ⟨(({ U with heap := s₂.heap, slotsUsed := s₂.slotsUsed } : State).setVm s₂.vm), Ls ++ L, c0 + mc, s0 + ms⟩,
      ⟨X.admits, X.cas, X.clock, X.frames, X.room, X.hears, X.method, X.code, (X.here.setHeapUsed s₂.heap s₂.slotsUsed).setVm hW'.alike, X.tail, State.WarmedH.trans X.warmed hW', X.limits, X.bytes, X.same.trans (hsame.setVm s.vm)⟩,
      ⟨g, mk, s₂, L, E, ce, rfl, rfl, hx, hce, hcv, hcl, rfl, hL, rfl, rfl⟩, ?_⟩
    show Steps p.tables e below _ (((({ U with heap := s₂.heap, slotsUsed := s₂.slotsUsed } : State).setVm s₂.vm).setTop g).pushFrame (.throwing q))
    rw [← hs₂]
    exact hsteps
end
variable {p : Program} {l : Launch} {e : Env} {R : Room} {s : State} {m : MethodId} {args : Array Value} {below : List Frame} {meth : Method} {c : Code} {T : State} {H : Heap} {locs : List Loc} {cells slots : Nat}
theorem vx_callVX (X : Stand p l e R s m args below meth c T locs cells slots) (hexec : p.tables.exec = Jvm.exec) {own C : String} {index : Nat} {y : MethodName} {bytes : ByteArray} {maxL : Nat} {ret : Option FieldType} {hh : List (Nat × Nat × Nat × Nat)}
    (hown : s.vm.findClass own = some m.cls) (hlink : (Cond.methodLink own index y).before args s = true) (hinst : (Cond.instanceMethod y).before args s = true) (hsel : (Cond.selects C y y).before args s = true)
    (hcode : (Cond.codeWith y bytes maxL ret hh).before args s = true) (hy : y.cls ≠ "java/lang/invoke/MethodHandle" ∧ y.cls ≠ "java/lang/invoke/VarHandle")
    {W9 : Nat} {Pre : Pt → Array Value → Prop} {Post : Pt → Array Value → Option Value → Pt → Prop} {PostX : Pt → Array Value → Addr → Pt → Prop} (hK : vx_Back l R p e below s args y 3 W9 Pre Post PostX)
    {b : Addr} {cellB : Cell} (hcell : T.heap[b]? = some cellB) (hobj : cellB.vm.isStatics = false) (hcls : s.vm.findClass C = some cellB.cls)
    {g : JFrame} (hg : g.method = m) (hsize : g.locals.size = c.maxLocals) {argsL rest : List Value} (hlen : ∀ sig, parseMethodDescriptor y.desc = some sig → argsL.length = sig.parameters.length)
    (hstack : g.stack = argsL.reverse ++ .ref b :: rest) (hW : 2 * g.monitorRoom + (rest.map fun v => v.category).sum ≤ W9) (hdg : decode c.code g.pc = .ok (.invokevirtual index, 3))
    (hpre : ∀ vm₁, s.WarmedH vm₁ → Pre ⟨T.setVm vm₁, locs, cells, slots⟩ (Value.ref b :: argsL).toArray) :
    (∃ (v : Option Value) (vm₁ : Vm) (B : Pt), s.WarmedH vm₁ ∧ Stand p l e R s m args below meth c B.U B.locs B.cells B.slots ∧ Post ⟨T.setVm vm₁, locs, cells, slots⟩ (Value.ref b :: argsL).toArray v B ∧
      ∀ target, Steps p.tables e below (B.U.setTop { g with pc := g.pc + 3, stack := v.toList ++ rest }) target → Steps p.tables e below (T.setTop g) target) ∨
    (∃ (q : Addr) (vm₁ : Vm) (B : Pt), s.WarmedH vm₁ ∧ Stand p l e R s m args below meth c B.U B.locs B.cells B.slots ∧ PostX ⟨T.setVm vm₁, locs, cells, slots⟩ (Value.ref b :: argsL).toArray q B ∧
      Steps p.tables e below (T.setTop g) ((B.U.setTop { g with stack := rest }).pushFrame (.throwing q))) := by
  obtain ⟨mk, methM, hnamed, hmethM, hstM, habM⟩ := Cond.instanceMethod_spec hinst
  obtain ⟨m8, methM', cM, hn8, hmethM', -, -, -, -, -, -, hsigM⟩ := Cond.codeWith_spec hcode
  cases Option.some.inj (hn8.symm.trans hnamed)
  cases hmethM.symm.trans hmethM'
  obtain ⟨c2, r2, m2, q1, q2, q3, q4, kP, hkP, hkPi⟩ := Cond.selects_spec hsel
  cases hcls.symm.trans q1
  cases (State.methodFound?_of_named hnamed hy).symm.trans q2
  cases hnamed.symm.trans q3
  have hselP : selectMethod e.platform s.vm cellB.cls mk = .method mk := by rw [Launch.admits_selectMethod X.admits]; exact q4
  obtain ⟨vm₁, X₁, hstep₁⟩ := X.invokevirtual hexec hown hlink hnamed hmethM hstM hkP hkPi hy (a := b) (cell := cellB) hcell
    (fun z h => by rw [h] at hobj; cases hobj) hselP hmethM habM hkP hkPi (g := g) hg (argsL := argsL) (rest := rest) (hlen _ hsigM) hstack hdg
  rcases hK m meth c ⟨T.setVm vm₁, locs, cells, slots⟩ { g with stack := rest } (.invokevirtual index) mk (Value.ref b :: argsL).toArray X₁ hg hsize hdg hW (X₁.named hnamed) (hpre vm₁ X₁.warmed) with ⟨v, B, X', hpost, hsteps⟩ | ⟨q, B, X', hpost, hsteps⟩
  · exact Or.inl ⟨v, vm₁, B, X₁.warmed, X', hpost, fun target h => hstep₁ _ fun acts => by rw [doInvoke_state]; exact hsteps.trans h⟩
  · exact Or.inr ⟨q, vm₁, B, X₁.warmed, X', hpost, hstep₁ _ fun acts => by rw [doInvoke_state]; exact hsteps⟩
theorem vx_callSX (X : Stand p l e R s m args below meth c T locs cells slots) (hexec : p.tables.exec = Jvm.exec) {own : String} {index : Nat} {y : MethodName} {bytes : ByteArray} {maxL : Nat} {ret : Option FieldType} {hh : List (Nat × Nat × Nat × Nat)}
    (hown : s.vm.findClass own = some m.cls) (hlink : (Cond.methodLink own index y).before args s = true) (hstat : (Cond.static y).before args s = true) (hinit : (Cond.initialized y.cls).before args s = true)
    (hcode : (Cond.codeWith y bytes maxL ret hh).before args s = true) (hy : y.cls ≠ "java/lang/invoke/MethodHandle" ∧ y.cls ≠ "java/lang/invoke/VarHandle")
    {W9 : Nat} {Pre : Pt → Array Value → Prop} {Post : Pt → Array Value → Option Value → Pt → Prop} {PostX : Pt → Array Value → Addr → Pt → Prop} (hK : vx_Back l R p e below s args y 3 W9 Pre Post PostX)
    {g : JFrame} (hg : g.method = m) (hsize : g.locals.size = c.maxLocals) {argsL rest : List Value} (hlen : ∀ sig, parseMethodDescriptor y.desc = some sig → argsL.length = sig.parameters.length)
    (hstack : g.stack = argsL.reverse ++ rest) (hW : 2 * g.monitorRoom + (rest.map fun v => v.category).sum ≤ W9) (hdg : decode c.code g.pc = .ok (.invokestatic index, 3))
    (hpre : ∀ vm₁, s.WarmedH vm₁ → Pre ⟨T.setVm vm₁, locs, cells, slots⟩ argsL.toArray) :
    (∃ (v : Option Value) (vm₁ : Vm) (B : Pt), s.WarmedH vm₁ ∧ Stand p l e R s m args below meth c B.U B.locs B.cells B.slots ∧ Post ⟨T.setVm vm₁, locs, cells, slots⟩ argsL.toArray v B ∧
      ∀ target, Steps p.tables e below (B.U.setTop { g with pc := g.pc + 3, stack := v.toList ++ rest }) target → Steps p.tables e below (T.setTop g) target) ∨
    (∃ (q : Addr) (vm₁ : Vm) (B : Pt), s.WarmedH vm₁ ∧ Stand p l e R s m args below meth c B.U B.locs B.cells B.slots ∧ PostX ⟨T.setVm vm₁, locs, cells, slots⟩ argsL.toArray q B ∧
      Steps p.tables e below (T.setTop g) ((B.U.setTop { g with stack := rest }).pushFrame (.throwing q))) := by
  obtain ⟨mk, methM, cM, hnamed, hmethM, -, -, -, -, -, -, hsigM⟩ := Cond.codeWith_spec hcode
  have hstatic : methM.isStatic = true := Cond.static_spec hnamed hmethM hstat
  obtain ⟨kP, hkP, -⟩ := className_of_methodNamed hnamed
  have hinitP : kP.init = .initialized := Cond.initialized_spec (findClass_of_methodNamed hnamed) hkP hinit
  obtain ⟨vm₁, X₁, hstep₁⟩ := X.invokestatic hexec hown hlink hnamed hmethM hstatic hkP hinitP hy (g := g) hg (argsL := argsL) (rest := rest) (hlen _ hsigM) hstack hdg
  rcases hK m meth c ⟨T.setVm vm₁, locs, cells, slots⟩ { g with stack := rest } (.invokestatic index) mk argsL.toArray X₁ hg hsize hdg hW (X₁.named hnamed) (hpre vm₁ X₁.warmed) with ⟨v, B, X', hpost, hsteps⟩ | ⟨q, B, X', hpost, hsteps⟩
  · exact Or.inl ⟨v, vm₁, B, X₁.warmed, X', hpost, fun target h => hstep₁ _ fun acts => by rw [doInvoke_state]; exact hsteps.trans h⟩
  · exact Or.inr ⟨q, vm₁, B, X₁.warmed, X', hpost, hstep₁ _ fun acts => by rw [doInvoke_state]; exact hsteps⟩
theorem vx_callVW (X : Stand p l e R s m args below meth c T locs cells slots) (hexec : p.tables.exec = Jvm.exec) {own C : String} {index : Nat} {y : MethodName} {bytes : ByteArray} {maxL : Nat} {ret : Option FieldType} {hh : List (Nat × Nat × Nat × Nat)}
    (hown : s.vm.findClass own = some m.cls) (hlink : (Cond.methodLink own index y).before args s = true) (hinst : (Cond.instanceMethod y).before args s = true) (hsel : (Cond.selects C y y).before args s = true)
    (hcode : (Cond.codeWith y bytes maxL ret hh).before args s = true) (hy : y.cls ≠ "java/lang/invoke/MethodHandle" ∧ y.cls ≠ "java/lang/invoke/VarHandle")
    {W9 : Nat} {Pre : Pt → Array Value → Prop} {Post : Pt → Array Value → Option Value → Pt → Prop} (hK : Back l R p e below s args y 3 W9 Pre Post)
    {b : Addr} {cellB : Cell} (hcell : T.heap[b]? = some cellB) (hobj : cellB.vm.isStatics = false) (hcls : s.vm.findClass C = some cellB.cls)
    {g : JFrame} (hg : g.method = m) (hsize : g.locals.size = c.maxLocals) {argsL rest : List Value} (hlen : ∀ sig, parseMethodDescriptor y.desc = some sig → argsL.length = sig.parameters.length)
    (hstack : g.stack = argsL.reverse ++ .ref b :: rest) (hW : 2 * g.monitorRoom + (rest.map fun v => v.category).sum ≤ W9) (hdg : decode c.code g.pc = .ok (.invokevirtual index, 3))
    (hpre : ∀ vm₁, s.WarmedH vm₁ → Pre ⟨T.setVm vm₁, locs, cells, slots⟩ (Value.ref b :: argsL).toArray) :
    ∃ (v : Option Value) (vm₁ : Vm) (B : Pt), s.WarmedH vm₁ ∧ Stand p l e R s m args below meth c B.U B.locs B.cells B.slots ∧ Post ⟨T.setVm vm₁, locs, cells, slots⟩ (Value.ref b :: argsL).toArray v B ∧
      ∀ target, Steps p.tables e below (B.U.setTop { g with pc := g.pc + 3, stack := v.toList ++ rest }) target → Steps p.tables e below (T.setTop g) target := by
  obtain ⟨mk, methM, hnamed, hmethM, hstM, habM⟩ := Cond.instanceMethod_spec hinst
  obtain ⟨m8, methM', cM, hn8, hmethM', -, -, -, -, -, -, hsigM⟩ := Cond.codeWith_spec hcode
  cases Option.some.inj (hn8.symm.trans hnamed)
  cases hmethM.symm.trans hmethM'
  obtain ⟨c2, r2, m2, q1, q2, q3, q4, kP, hkP, hkPi⟩ := Cond.selects_spec hsel
  cases hcls.symm.trans q1
  cases (State.methodFound?_of_named hnamed hy).symm.trans q2
  cases hnamed.symm.trans q3
  have hselP : selectMethod e.platform s.vm cellB.cls mk = .method mk := by rw [Launch.admits_selectMethod X.admits]; exact q4
  obtain ⟨vm₁, X₁, hstep₁⟩ := X.invokevirtual hexec hown hlink hnamed hmethM hstM hkP hkPi hy (a := b) (cell := cellB) hcell
    (fun z h => by rw [h] at hobj; cases hobj) hselP hmethM habM hkP hkPi (g := g) hg (argsL := argsL) (rest := rest) (hlen _ hsigM) hstack hdg
  obtain ⟨v, B, X', hpost, hsteps⟩ := hK m meth c ⟨T.setVm vm₁, locs, cells, slots⟩ { g with stack := rest } (.invokevirtual index) mk (Value.ref b :: argsL).toArray X₁ hg hsize hdg hW (X₁.named hnamed) (hpre vm₁ X₁.warmed)
  exact ⟨v, vm₁, B, X₁.warmed, X', hpost, fun target h => hstep₁ _ fun acts => by rw [doInvoke_state]; exact hsteps.trans h⟩
abbrev vx_CVW (R : Room) (s : State) (args : Array Value) (own C : String) (index : Nat) (y : MethodName) (bytes : ByteArray) (maxL : Nat) (ret : Option FieldType) (hh : List (Nat × Nat × Nat × Nat)) (ws : List Cond) (rm : Room) (mc ms n : Nat) : Prop :=
  (rm.cells = mc ∧ rm.slots = ms ∧ rm.frames + 1 ≤ R.frames ∧ 8 + (maxL + 11) + rm.locals ≤ R.locals ∧ (∀ w ∈ ws, ∀ (a' : Array Value) (U : State), s.WarmedH U.vm → w.before a' U = true) ∧ Cond.codeWith y bytes maxL ret hh ∈ ws) ∧
  (Cond.codeWith y bytes maxL ret hh).before args s = true ∧ (Cond.initialized y.cls).before args s = true ∧ (y.cls ≠ "java/lang/invoke/MethodHandle" ∧ y.cls ≠ "java/lang/invoke/VarHandle") ∧
  (∀ sig, parseMethodDescriptor y.desc = some sig → n = sig.parameters.length) ∧ (Cond.methodLink own index y).before args s = true ∧ (Cond.instanceMethod y).before args s = true ∧ (Cond.selects C y y).before args s = true
theorem vx_cwVW {own C : String} {index maxL mc ms : Nat} {y : MethodName} {bytes : ByteArray} {ret : Option FieldType} {hh : List (Nat × Nat × Nat × Nat)} {Ts ws ws' : List Cond} {rm : Room} (n : Nat) (ht : ∀ w ∈ Ts, w.before args s = true) (hT : GoodIn Ts (wsV own index C y ws)) (hw : ws = Cond.codeWith y bytes maxL ret hh :: ws') (hrc : rm.cells = mc) (hrs : rm.slots = ms)
    (hd : y.cls = C ∧ y.cls ≠ "java/lang/invoke/MethodHandle" ∧ y.cls ≠ "java/lang/invoke/VarHandle" ∧ (parseMethodDescriptor y.desc).map (fun d => d.parameters.length) = some n) (hR : rm.frames + 1 ≤ R.frames ∧ 8 + (maxL + 11) + rm.locals ≤ R.locals) :
    vx_CVW R s args own C index y bytes maxL ret hh ws rm mc ms n := by
  obtain ⟨hC, hd⟩ := hd
  subst hC
  have ok : ∀ w ∈ wsV own index y.cls y ws, w.before args s = true := fun w h => ht w (hT w h).1
  have hG : GoodIn Ts ws := fun w h => hT w (by unfold wsV; exact List.mem_append_right _ h)
  have hc : Cond.codeWith y bytes maxL ret hh ∈ ws := by rw [hw]; exact List.mem_cons_self
  refine ⟨⟨hrc, hrs, hR.1, hR.2, pay_in ht hG, hc⟩, ht _ (hG _ hc).1, ok _ (by simp [wsV]), ⟨hd.1, hd.2.1⟩, fun sig h => ?_, ok _ (by simp [wsV]), ok _ (by simp [wsV]), ok _ (by simp [wsV])⟩
  have h2 := hd.2.2
  rw [h] at h2
  exact (Option.some.inj h2).symm
theorem vx_runVW {y : MethodName} {bytes cc : ByteArray} {maxL nL mc ms n index : Nat} {ret : Option FieldType} {hh : List (Nat × Nat × Nat × Nat)} {ws : List Cond} {rm : Room} {Pc : Array Value → State → Prop} {Qc : Array Value → State → Outcome → State → Prop} {free : Addr → Prop} {Ts : List Cond} {own C : String} {b : Addr} {As rest : List Value} {g : JFrame}
    (S : CallFix p m c cc nL s args Ts own) (hM : Met l y ws rm Pc Qc mc ms free) (cw : vx_CVW R s args own C index y bytes maxL ret hh ws rm mc ms n) (hp : PreV s H C b Pc As)
    (hg : g.method = m) (hn : As.length = n) (hsize : g.locals.size = nL) (hstack : g.stack = As.reverse ++ .ref b :: rest) (hW : 2 * g.monitorRoom + (rest.map fun v => v.category).sum ≤ 8) (hdg : decode cc g.pc = .ok (.invokevirtual index, 3)) (hf : cells + mc ≤ R.cells ∧ slots + ms ≤ R.slots) :
    va_Run p l e R s m args below meth c H locs cells slots mc ms g rest (Qc (Value.ref b :: As).toArray) free := by
  obtain ⟨⟨hrc, hrs, hfr, hlo, hws, hcw⟩, hcode, hini, hy, hlen, hl, hin, hse⟩ := cw
  have hK : Back l R p e below s args y 3 8 (PreOf R mc ms Pc) (PostOf Qc mc ms free) := va_backW (hh := hh) (bytes := bytes) (maxL := maxL) (ret := ret) hM hp.1 hrc hrs hfr hlo hws hcw (fun a' U hW => word_at hW (Or.inl (by first | rfl | simp [Cond.onTables, Cond.keeps, Cond.steady])) hini)
  obtain ⟨hx, hb, hml, ho, -⟩ := S
  obtain ⟨-, ⟨cellB, hcB, hoB, hclB⟩, hPc⟩ := hp
  intro T hT X
  obtain ⟨v, vm₁, ⟨U', l2, c2, s2⟩, hW₁, X', ⟨g', mk, t, L, e1, e2, hq, h1, hL, h2, h3⟩, st⟩ := vx_callVW X hx (C := C) (hh := hh) (bytes := bytes) (maxL := maxL) (ret := ret) ho hl hin hse hcode hy hK (by rw [hT]; exact hcB) hoB hclB hg (hsize.trans hml.symm) (argsL := As) (rest := rest) (fun sig h => hn.trans (hlen sig h)) hstack hW (by rw [hb]; exact hdg)
    (fun vm₁ hW₁ => ⟨hf.1, hf.2, hPc (T.setVm vm₁) hT hW₁⟩)
  dsimp only [Pt.U, Pt.locs, Pt.cells, Pt.slots] at X' e1 e2 h1 h2 h3 st
  subst h1; subst h2; subst h3
  exact ⟨v, (T.setVm vm₁).calling g' mk (Value.ref b :: As).toArray, t, U', L, hT, X', hL, e1, e2, hq, st⟩
section
variable {y : MethodName} {bytes cc : ByteArray} {maxL nL mc ms n index : Nat} {ret : Option FieldType} {ws : List Cond} {rm : Room} {Pc : Array Value → State → Prop} {Qc : Array Value → State → Outcome → State → Prop} {XC : String → State → State → Prop} {free : Addr → Prop} {Ts : List Cond} {own C : String} {b : Addr} {As rest : List Value} {g : JFrame}
theorem vx_runVX {hh : List (Nat × Nat × Nat × Nat)} (S : CallFix p m c cc nL s args Ts own) (hM : vx_Met l y ws rm Pc Qc XC mc ms free) (cw : vx_CVW R s args own C index y bytes maxL ret hh ws rm mc ms n) (hp : PreV s H C b Pc As)
    (hg : g.method = m) (hn : As.length = n) (hsize : g.locals.size = nL) (hstack : g.stack = As.reverse ++ .ref b :: rest) (hW : 2 * g.monitorRoom + (rest.map fun v => v.category).sum ≤ 8) (hdg : decode cc g.pc = .ok (.invokevirtual index, 3)) (hf : cells + mc ≤ R.cells ∧ slots + ms ≤ R.slots) :
    vx_Run p l e R s m args below meth c H locs cells slots mc ms g rest (Qc (Value.ref b :: As).toArray) XC free := by
  obtain ⟨⟨hrc, hrs, hfr, hlo, hws, hcw⟩, hcode, hini, hy, hlen, hl, hin, hse⟩ := cw
  have hK : vx_Back l R p e below s args y 3 8 (PreOf R mc ms Pc) (PostOf Qc mc ms free) (vx_Post XC mc ms free) := vx_backW (hh := hh) (bytes := bytes) (maxL := maxL) (ret := ret) hM hp.1 hrc hrs hfr hlo hws hcw (fun a' U hW => word_at hW (Or.inl (by first | rfl | simp [Cond.onTables, Cond.keeps, Cond.steady])) hini)
  obtain ⟨hx, hb, hml, ho, -⟩ := S
  obtain ⟨-, ⟨cellB, hcB, hoB, hclB⟩, hPc⟩ := hp
  intro T hT X
  rcases vx_callVX X hx (C := C) (hh := hh) (bytes := bytes) (maxL := maxL) (ret := ret) ho hl hin hse hcode hy hK (by rw [hT]; exact hcB) hoB hclB hg (hsize.trans hml.symm) (argsL := As) (rest := rest) (fun sig h => hn.trans (hlen sig h)) hstack hW (by rw [hb]; exact hdg)
    (fun vm₁ hW₁ => ⟨hf.1, hf.2, hPc (T.setVm vm₁) hT hW₁⟩) with ⟨v, vm₁, ⟨U', l2, c2, s2⟩, hW₁, X', ⟨g', mk, t, L, e1, e2, hq, h1, hL, h2, h3⟩, st⟩ | ⟨q, vm₁, ⟨U', l2, c2, s2⟩, hW₁, X', ⟨g', mk, t, L, E, ce, e1, e2, hq, hce, hcv, hcl, h1, hL, h2, h3⟩, st⟩
  · dsimp only [Pt.U, Pt.locs, Pt.cells, Pt.slots] at X' e1 e2 h1 h2 h3 st
    subst h1; subst h2; subst h3
    exact Or.inl ⟨v, (T.setVm vm₁).calling g' mk (Value.ref b :: As).toArray, t, U', L, hT, X', hL, e1, e2, hq, st⟩
  · dsimp only [Pt.U, Pt.locs, Pt.cells, Pt.slots] at X' e1 e2 h1 h2 h3 st hcl
    subst h1; subst h2; subst h3
    exact Or.inr ⟨q, (T.setVm vm₁).calling g' mk (Value.ref b :: As).toArray, t, U', L, E, ce, hT, X', hL, e1, e2, hq, hce, hcv, vx_cls hW₁ hcl, st⟩
theorem vx_runSX {hh : List (Nat × Nat × Nat × Nat)} (S : CallFix p m c cc nL s args Ts own) (hM : vx_Met l y ws rm Pc Qc XC mc ms free) (cw : vx_CSW R s args own index y bytes maxL ret hh ws rm mc ms n) (hp : PreS s H Pc As)
    (hg : g.method = m) (hn : As.length = n) (hsize : g.locals.size = nL) (hstack : g.stack = As.reverse ++ rest) (hW : 2 * g.monitorRoom + (rest.map fun v => v.category).sum ≤ 8) (hdg : decode cc g.pc = .ok (.invokestatic index, 3)) (hf : cells + mc ≤ R.cells ∧ slots + ms ≤ R.slots) :
    vx_Run p l e R s m args below meth c H locs cells slots mc ms g rest (Qc As.toArray) XC free := by
  obtain ⟨⟨hrc, hrs, hfr, hlo, hws, hcw⟩, hcode, hini, hy, hlen, hl, hstt⟩ := cw
  have hK : vx_Back l R p e below s args y 3 8 (PreOf R mc ms Pc) (PostOf Qc mc ms free) (vx_Post XC mc ms free) := vx_backW (hh := hh) (bytes := bytes) (maxL := maxL) (ret := ret) hM hp.1 hrc hrs hfr hlo hws hcw (fun a' U hW => word_at hW (Or.inl (by first | rfl | simp [Cond.onTables, Cond.keeps, Cond.steady])) hini)
  obtain ⟨hx, hb, hml, ho, -⟩ := S
  intro T hT X
  rcases vx_callSX X hx (hh := hh) (bytes := bytes) (maxL := maxL) (ret := ret) ho hl hstt hini hcode hy hK hg (hsize.trans hml.symm) (argsL := As) (rest := rest) (fun sig h => hn.trans (hlen sig h)) hstack hW (by rw [hb]; exact hdg)
    (fun vm₁ hW₁ => ⟨hf.1, hf.2, hp.2 (T.setVm vm₁) hT hW₁⟩) with ⟨v, vm₁, ⟨U', l2, c2, s2⟩, hW₁, X', ⟨g', mk, t, L, e1, e2, hq, h1, hL, h2, h3⟩, st⟩ | ⟨q, vm₁, ⟨U', l2, c2, s2⟩, hW₁, X', ⟨g', mk, t, L, E, ce, e1, e2, hq, hce, hcv, hcl, h1, hL, h2, h3⟩, st⟩
  · dsimp only [Pt.U, Pt.locs, Pt.cells, Pt.slots] at X' e1 e2 h1 h2 h3 st
    subst h1; subst h2; subst h3
    exact Or.inl ⟨v, (T.setVm vm₁).calling g' mk As.toArray, t, U', L, hT, X', hL, e1, e2, hq, st⟩
  · dsimp only [Pt.U, Pt.locs, Pt.cells, Pt.slots] at X' e1 e2 h1 h2 h3 st hcl
    subst h1; subst h2; subst h3
    exact Or.inr ⟨q, (T.setVm vm₁).calling g' mk As.toArray, t, U', L, E, ce, hT, X', hL, e1, e2, hq, hce, hcv, vx_cls hW₁ hcl, st⟩
end
end VXH
theorem vx_ofWH {l : Launch} {y : MethodName} {ws ws' : List Cond} {rm : Room} {Pc : Array Value → State → Prop} {Qc : Array Value → State → Outcome → State → Prop} {XC : String → State → State → Prop} {mc ms : Nat} {free : Addr → Prop} {cc : ByteArray} {maxL : Nat} {ret : Option FieldType} {hh : List (Nat × Nat × Nat × Nat)}
    (hy : plainName y.cls = true) (hw : ws = Cond.codeWith y cc maxL ret hh :: ws')
    (body : ∀ p e s m args below meth c s₁, BodyLoose p l y (headSpec ws rm) cc maxL ret e s m args below meth c s₁ → c.maxLocals = maxL → Pc args s →
      W p l e (headSpec ws rm).room s m args below meth c s.heap [] 0 0 (vx_MQ below Qc XC args s mc ms free) (entryFrame m args maxL)) : vx_Met l y ws rm Pc Qc XC mc ms free := by
  refine MetFree.of_bodyS (code := cc) (maxLocals := maxL) (ret := ret) hy ?_ ?_
  · intro args s m h hn
    obtain ⟨m9, meth, c, hn9, h1, h2, h3, h4, -, h5, h6, -⟩ := Cond.codeWith_spec (atoms_spec (ws := ws) h _ (by rw [hw]; exact List.mem_cons_self))
    cases hn.symm.trans hn9
    exact ⟨meth, c, h1, h2, h3, h4, h5, h6⟩
  · intro p e s m args below meth c s₁ B hml hP _
    have hh0 : s₁.heap = s.heap := by rw [B.state]; rfl
    obtain ⟨t, a1, o, b1, b2, b3⟩ := body p e s m args below meth c s₁ B hml hP s₁ hh0 (Stand.of_body B)
    exact ⟨t, o, a1, b1, b2, b3⟩
/-! ===== END ===== -/
end
section
/-! names, field tables: by program out of the statement -/
def RD : String := "LoanDesk"
def TD : u_T := fun k => match k with
  | 0 => ("LoanDesk", "loans", "[LLoanDesk$Loan;", true)
  | 1 => ("LoanDesk", "loanCount", "I", false)
  | _ => ("LoanDesk", "today", "I", false)
def tyD : Nat → FieldType := fun k => match k with
  | 0 => (.array (.object "LoanDesk$Loan"))
  | 1 => .int
  | _ => .int
theorem nD : ∀ a, a < 3 → ∀ b, b < 3 → a ≠ b → (TD a).2.1 ≠ (TD b).2.1 := by decide +kernel
theorem tyD_ok : ∀ k, k < 3 → parseFieldDescriptor (TD k).2.2.1 = some (tyD k) := by decide +kernel
def RA : String := "LoanDesk$Account"
def TA : u_T := fun k => match k with
  | 0 => ("LoanDesk$Account", "balance", "I", false)
  | 1 => ("LoanDesk$Account", "deposit", "I", false)
  | _ => ("LoanDesk$Account", "yearlyCharge", "I", false)
def tyA : Nat → FieldType := fun k => match k with
  | 0 => .int
  | 1 => .int
  | _ => .int
theorem nA : ∀ a, a < 3 → ∀ b, b < 3 → a ≠ b → (TA a).2.1 ≠ (TA b).2.1 := by decide +kernel
theorem tyA_ok : ∀ k, k < 3 → parseFieldDescriptor (TA k).2.2.1 = some (tyA k) := by decide +kernel
def RB : String := "LoanDesk$BillBook"
def TB : u_T := fun k => match k with
  | 0 => ("LoanDesk$BillBook", "entries", "[I", true)
  | _ => ("LoanDesk$BillBook", "count", "I", false)
def tyB : Nat → FieldType := fun k => match k with
  | 0 => (.array .int)
  | _ => .int
theorem nB : ∀ a, a < 2 → ∀ b, b < 2 → a ≠ b → (TB a).2.1 ≠ (TB b).2.1 := by decide +kernel
theorem tyB_ok : ∀ k, k < 2 → parseFieldDescriptor (TB k).2.2.1 = some (tyB k) := by decide +kernel
def RC : String := "LoanDesk$Cents"
def RY : String := "LoanDesk$Days"
def RN : String := "LoanDesk$Loan"
def TN : u_T := fun k => match k with
  | 0 => ("LoanDesk$Loan", "terms", "LLoanDesk$Terms;", true)
  | 1 => ("LoanDesk$Loan", "account", "LLoanDesk$Account;", true)
  | 2 => ("LoanDesk$Loan", "billBook", "LLoanDesk$BillBook;", true)
  | 3 => ("LoanDesk$Loan", "owed", "[I", true)
  | 4 => ("LoanDesk$Loan", "parts", "[I", true)
  | 5 => ("LoanDesk$Loan", "wasPaid", "Z", false)
  | 6 => ("LoanDesk$Loan", "principal", "I", false)
  | 7 => ("LoanDesk$Loan", "level", "I", false)
  | 8 => ("LoanDesk$Loan", "accrued", "I", false)
  | 9 => ("LoanDesk$Loan", "accruedUpTo", "I", false)
  | 10 => ("LoanDesk$Loan", "dueDaysPassed", "I", false)
  | 11 => ("LoanDesk$Loan", "nextDueDay", "I", false)
  | _ => ("LoanDesk$Loan", "spanTops", "[I", true)
def tyN : Nat → FieldType := fun k => match k with
  | 0 => (.object "LoanDesk$Terms")
  | 1 => (.object "LoanDesk$Account")
  | 2 => (.object "LoanDesk$BillBook")
  | 3 => (.array .int)
  | 4 => (.array .int)
  | 5 => .boolean
  | 6 => .int
  | 7 => .int
  | 8 => .int
  | 9 => .int
  | 10 => .int
  | 11 => .int
  | _ => (.array .int)
theorem nN : ∀ a, a < 13 → ∀ b, b < 13 → a ≠ b → (TN a).2.1 ≠ (TN b).2.1 := by decide +kernel
theorem tyN_ok : ∀ k, k < 13 → parseFieldDescriptor (TN k).2.2.1 = some (tyN k) := by decide +kernel
def RS : String := "LoanDesk$Span"
def RT : String := "LoanDesk$Terms"
def TT : u_T := fun k => match k with
  | 0 => ("LoanDesk$Terms", "rate", "I", true)
  | 1 => ("LoanDesk$Terms", "months", "I", true)
  | 2 => ("LoanDesk$Terms", "rule", "I", true)
  | 3 => ("LoanDesk$Terms", "rounding", "I", true)
  | 4 => ("LoanDesk$Terms", "steady", "Z", true)
  | 5 => ("LoanDesk$Terms", "monthOpened", "I", true)
  | _ => ("LoanDesk$Terms", "numberInMonth", "I", true)
def tyT : Nat → FieldType := fun k => match k with
  | 0 => .int
  | 1 => .int
  | 2 => .int
  | 3 => .int
  | 4 => .boolean
  | 5 => .int
  | _ => .int
theorem nT : ∀ a, a < 7 → ∀ b, b < 7 → a ≠ b → (TT a).2.1 ≠ (TT b).2.1 := by decide +kernel
theorem tyT_ok : ∀ k, k < 7 → parseFieldDescriptor (TT k).2.2.1 = some (tyT k) := by decide +kernel
def RM : String := "LoanDeskModel"
def TM : u_T := fun k => match k with
  | 0 => ("LoanDeskModel", "code", "I", false)
  | 1 => ("LoanDeskModel", "today", "I", false)
  | 2 => ("LoanDeskModel", "loans", "I", false)
  | 3 => ("LoanDeskModel", "opened", "[I", false)
  | 4 => ("LoanDeskModel", "rate", "[I", false)
  | 5 => ("LoanDeskModel", "months", "[I", false)
  | 6 => ("LoanDeskModel", "rule", "[I", false)
  | 7 => ("LoanDeskModel", "rounding", "[I", false)
  | 8 => ("LoanDeskModel", "steady", "[Z", false)
  | 9 => ("LoanDeskModel", "principal", "[I", false)
  | 10 => ("LoanDeskModel", "level", "[I", false)
  | 11 => ("LoanDeskModel", "accrued", "[I", false)
  | 12 => ("LoanDeskModel", "upTo", "[I", false)
  | 13 => ("LoanDeskModel", "escrow", "[I", false)
  | 14 => ("LoanDeskModel", "charge", "[I", false)
  | 15 => ("LoanDeskModel", "deposit", "[I", false)
  | 16 => ("LoanDeskModel", "owed", "[I", false)
  | 17 => ("LoanDeskModel", "paid", "[Z", false)
  | 18 => ("LoanDeskModel", "parts", "[I", false)
  | 19 => ("LoanDeskModel", "bills", "[I", false)
  | 20 => ("LoanDeskModel", "billDay", "[I", false)
  | 21 => ("LoanDeskModel", "billPrincipal", "[I", false)
  | 22 => ("LoanDeskModel", "billInterest", "[I", false)
  | 23 => ("LoanDeskModel", "billPart", "[I", false)
  | 24 => ("LoanDeskModel", "billDeposit", "[I", false)
  | 25 => ("LoanDeskModel", "year", "I", false)
  | 26 => ("LoanDeskModel", "month", "I", false)
  | _ => ("LoanDeskModel", "number", "I", false)
def tyM : Nat → FieldType := fun k => match k with
  | 0 => .int
  | 1 => .int
  | 2 => .int
  | 3 => (.array .int)
  | 4 => (.array .int)
  | 5 => (.array .int)
  | 6 => (.array .int)
  | 7 => (.array .int)
  | 8 => (.array .boolean)
  | 9 => (.array .int)
  | 10 => (.array .int)
  | 11 => (.array .int)
  | 12 => (.array .int)
  | 13 => (.array .int)
  | 14 => (.array .int)
  | 15 => (.array .int)
  | 16 => (.array .int)
  | 17 => (.array .boolean)
  | 18 => (.array .int)
  | 19 => (.array .int)
  | 20 => (.array .int)
  | 21 => (.array .int)
  | 22 => (.array .int)
  | 23 => (.array .int)
  | 24 => (.array .int)
  | 25 => .int
  | 26 => .int
  | _ => .int
theorem nM : ∀ a, a < 28 → ∀ b, b < 28 → a ≠ b → (TM a).2.1 ≠ (TM b).2.1 := by decide +kernel
theorem tyM_ok : ∀ k, k < 28 → parseFieldDescriptor (TM k).2.2.1 = some (tyM k) := by decide +kernel
def RL : String := "LoanDeskLaw"
abbrev cD_init : ByteArray := prog_1_method_1_code
def yD_init : MethodName := ⟨RD, "<init>", "()V"⟩
abbrev cD_date : ByteArray := prog_1_method_7_code
def yD_date : MethodName := ⟨RD, "date", "()I"⟩
abbrev cY_monthOf : ByteArray := prog_5_method_2_code
def yY_monthOf : MethodName := ⟨RY, "monthOf", "(I)I"⟩
abbrev cY_numberInMonth : ByteArray := prog_5_method_4_code
def yY_numberInMonth : MethodName := ⟨RY, "numberInMonth", "(I)I"⟩
abbrev cY_firstDayOf : ByteArray := prog_5_method_3_code
def yY_firstDayOf : MethodName := ⟨RY, "firstDayOf", "(I)I"⟩
abbrev cL_open : ByteArray := method_3_code
def yL_open : MethodName := ⟨RL, "open", "(LLoanDesk;IIIIIZ[J)I"⟩
abbrev cD_open : ByteArray := prog_1_method_2_code
def yD_open : MethodName := ⟨RD, "open", "(IIIIIZ)I"⟩
abbrev cD_within : ByteArray := prog_1_method_19_code
def yD_within : MethodName := ⟨RD, "within", "(III)Z"⟩
abbrev cT_init : ByteArray := prog_8_method_1_code
def yT_init : MethodName := ⟨RT, "<init>", "(IIIIZI)V"⟩
abbrev cN_init : ByteArray := prog_6_method_1_code
def yN_init : MethodName := ⟨RN, "<init>", "(LLoanDesk$Terms;II)V"⟩
abbrev cA_init : ByteArray := prog_2_method_1_code
def yA_init : MethodName := ⟨RA, "<init>", "()V"⟩
abbrev cB_init : ByteArray := prog_3_method_1_code
def yB_init : MethodName := ⟨RB, "<init>", "()V"⟩
abbrev cT_dueDay : ByteArray := prog_8_method_2_code
def yT_dueDay : MethodName := ⟨RT, "dueDay", "(I)I"⟩
abbrev cN_reckonLevel : ByteArray := prog_6_method_10_code
def yN_reckonLevel : MethodName := ⟨RN, "reckonLevel", "(I)V"⟩
abbrev cN_layOutSpans : ByteArray := prog_6_method_11_code
def yN_layOutSpans : MethodName := ⟨RN, "layOutSpans", "(I)I"⟩
abbrev cS_top : ByteArray := prog_7_method_2_code
def yS_top : MethodName := ⟨RS, "top", "(III)I"⟩
abbrev cY_thirties : ByteArray := prog_5_method_5_code
def yY_thirties : MethodName := ⟨RY, "thirties", "(I)I"⟩
abbrev cY_inLongYears : ByteArray := prog_5_method_6_code
def yY_inLongYears : MethodName := ⟨RY, "inLongYears", "(I)I"⟩
abbrev cN_leastLevel : ByteArray := prog_6_method_12_code
def yN_leastLevel : MethodName := ⟨RN, "leastLevel", "(II)I"⟩
abbrev cC_interestOn : ByteArray := prog_4_method_2_code
def yC_interestOn : MethodName := ⟨RC, "interestOn", "(IIIII)I"⟩
abbrev cS_bottom : ByteArray := prog_7_method_3_code
def yS_bottom : MethodName := ⟨RS, "bottom", "(I)I"⟩
abbrev cC_rounded : ByteArray := prog_4_method_3_code
def yC_rounded : MethodName := ⟨RC, "rounded", "(JJI)I"⟩
abbrev cN_leftInTheEnd : ByteArray := prog_6_method_13_code
def yN_leftInTheEnd : MethodName := ⟨RN, "leftInTheEnd", "(III)I"⟩
abbrev cL_charge : ByteArray := method_4_code
def yL_charge : MethodName := ⟨RL, "charge", "(LLoanDesk;II)I"⟩
abbrev cD_charge : ByteArray := prog_1_method_3_code
def yD_charge : MethodName := ⟨RD, "charge", "(II)V"⟩
abbrev cD_find : ByteArray := prog_1_method_18_code
def yD_find : MethodName := ⟨RD, "find", "(I)LLoanDesk$Loan;"⟩
abbrev cA_agreeOn : ByteArray := prog_2_method_2_code
def yA_agreeOn : MethodName := ⟨RA, "agreeOn", "(I)V"⟩
abbrev cC_twelfth : ByteArray := prog_4_method_4_code
def yC_twelfth : MethodName := ⟨RC, "twelfth", "(I)I"⟩
abbrev cL_advance : ByteArray := method_5_code
def yL_advance : MethodName := ⟨RL, "advance", "(LLoanDesk;I[J)I"⟩
abbrev cD_advance : ByteArray := prog_1_method_4_code
def yD_advance : MethodName := ⟨RD, "advance", "(I)I"⟩
abbrev cN_beginDay : ByteArray := prog_6_method_4_code
def yN_beginDay : MethodName := ⟨RN, "beginDay", "(I)Z"⟩
abbrev cB_latestIsOf : ByteArray := prog_3_method_3_code
def yB_latestIsOf : MethodName := ⟨RB, "latestIsOf", "(I)Z"⟩
abbrev cN_addLateFee : ByteArray := prog_6_method_5_code
def yN_addLateFee : MethodName := ⟨RN, "addLateFee", "()V"⟩
abbrev cA_payCharge : ByteArray := prog_2_method_3_code
def yA_payCharge : MethodName := ⟨RA, "payCharge", "()V"⟩
abbrev cN_accrue : ByteArray := prog_6_method_3_code
def yN_accrue : MethodName := ⟨RN, "accrue", "(I)V"⟩
abbrev cN_accruedBy : ByteArray := prog_6_method_2_code
def yN_accruedBy : MethodName := ⟨RN, "accruedBy", "(I)I"⟩
abbrev cN_makeBill : ByteArray := prog_6_method_6_code
def yN_makeBill : MethodName := ⟨RN, "makeBill", "(I)V"⟩
abbrev cN_partToBill : ByteArray := prog_6_method_7_code
def yN_partToBill : MethodName := ⟨RN, "partToBill", "(I)I"⟩
abbrev cB_add : ByteArray := prog_3_method_2_code
def yB_add : MethodName := ⟨RB, "add", "(IIIII)V"⟩
abbrev cL_pay : ByteArray := method_6_code
def yL_pay : MethodName := ⟨RL, "pay", "(LLoanDesk;II[J)I"⟩
abbrev cD_pay : ByteArray := prog_1_method_5_code
def yD_pay : MethodName := ⟨RD, "pay", "(II)I"⟩
abbrev cN_takePayment : ByteArray := prog_6_method_8_code
def yN_takePayment : MethodName := ⟨RN, "takePayment", "(II)I"⟩
abbrev cN_splitPayment : ByteArray := prog_6_method_9_code
def yN_splitPayment : MethodName := ⟨RN, "splitPayment", "(I)V"⟩
abbrev cL_part : ByteArray := method_7_code
def yL_part : MethodName := ⟨RL, "part", "(LLoanDesk;II[J)I"⟩
abbrev cD_part : ByteArray := prog_1_method_6_code
def yD_part : MethodName := ⟨RD, "part", "(II)I"⟩
abbrev cL_due : ByteArray := method_8_code
def yL_due : MethodName := ⟨RL, "due", "(LLoanDesk;II[J)I"⟩
abbrev cD_due : ByteArray := prog_1_method_8_code
def yD_due : MethodName := ⟨RD, "due", "(II)I"⟩
abbrev cL_principal : ByteArray := method_9_code
def yL_principal : MethodName := ⟨RL, "principal", "(LLoanDesk;I[J)I"⟩
abbrev cD_principal : ByteArray := prog_1_method_9_code
def yD_principal : MethodName := ⟨RD, "principal", "(I)I"⟩
abbrev cL_level : ByteArray := method_10_code
def yL_level : MethodName := ⟨RL, "level", "(LLoanDesk;I[J)I"⟩
abbrev cD_level : ByteArray := prog_1_method_10_code
def yD_level : MethodName := ⟨RD, "level", "(I)I"⟩
abbrev cL_accrued : ByteArray := method_11_code
def yL_accrued : MethodName := ⟨RL, "accrued", "(LLoanDesk;I[J)I"⟩
abbrev cD_accrued : ByteArray := prog_1_method_11_code
def yD_accrued : MethodName := ⟨RD, "accrued", "(I)I"⟩
abbrev cL_owed : ByteArray := method_12_code
def yL_owed : MethodName := ⟨RL, "owed", "(LLoanDesk;II[J)I"⟩
abbrev cD_owed : ByteArray := prog_1_method_12_code
def yD_owed : MethodName := ⟨RD, "owed", "(II)I"⟩
abbrev cL_escrow : ByteArray := method_13_code
def yL_escrow : MethodName := ⟨RL, "escrow", "(LLoanDesk;I[J)I"⟩
abbrev cD_escrow : ByteArray := prog_1_method_13_code
def yD_escrow : MethodName := ⟨RD, "escrow", "(I)I"⟩
abbrev cL_deposit : ByteArray := method_14_code
def yL_deposit : MethodName := ⟨RL, "deposit", "(LLoanDesk;I[J)I"⟩
abbrev cD_deposit : ByteArray := prog_1_method_14_code
def yD_deposit : MethodName := ⟨RD, "deposit", "(I)I"⟩
abbrev cL_bills : ByteArray := method_15_code
def yL_bills : MethodName := ⟨RL, "bills", "(LLoanDesk;I[J)I"⟩
abbrev cD_bills : ByteArray := prog_1_method_15_code
def yD_bills : MethodName := ⟨RD, "bills", "(I)I"⟩
abbrev cL_bill : ByteArray := method_16_code
def yL_bill : MethodName := ⟨RL, "bill", "(LLoanDesk;III[J)I"⟩
abbrev cD_bill : ByteArray := prog_1_method_16_code
def yD_bill : MethodName := ⟨RD, "bill", "(III)I"⟩
abbrev cL_interest : ByteArray := method_17_code
def yL_interest : MethodName := ⟨RL, "interest", "(LLoanDesk;IIIIII[J)I"⟩
abbrev cD_interest : ByteArray := prog_1_method_17_code
def yD_interest : MethodName := ⟨RD, "interest", "(IIIIII)I"⟩
abbrev cM_init : ByteArray := prog_10_method_1_code
def yM_init : MethodName := ⟨RM, "<init>", "()V"⟩
abbrev cM_thrown : ByteArray := prog_10_method_2_code
def yM_thrown : MethodName := ⟨RM, "thrown", "()I"⟩
abbrev cM_date : ByteArray := prog_10_method_9_code
def yM_date : MethodName := ⟨RM, "date", "()I"⟩
abbrev cM_find : ByteArray := prog_10_method_6_code
def yM_find : MethodName := ⟨RM, "find", "(I)V"⟩
abbrev cM_daysOf : ByteArray := prog_10_method_4_code
def yM_daysOf : MethodName := ⟨RM, "daysOf", "(I)I"⟩
abbrev cM_daysIn : ByteArray := prog_10_method_5_code
def yM_daysIn : MethodName := ⟨RM, "daysIn", "(II)I"⟩
abbrev cM_interest : ByteArray := prog_10_method_14_code
def yM_interest : MethodName := ⟨RM, "interest", "(IIIIII)I"⟩
abbrev cM_within : ByteArray := prog_10_method_3_code
def yM_within : MethodName := ⟨RM, "within", "(III)Z"⟩
abbrev cM_interestOn : ByteArray := prog_10_method_13_code
def yM_interestOn : MethodName := ⟨RM, "interestOn", "(IIIIII)I"⟩
abbrev cM_span : ByteArray := prog_10_method_11_code
def yM_span : MethodName := ⟨RM, "span", "(III)J"⟩
abbrev cM_under : ByteArray := prog_10_method_10_code
def yM_under : MethodName := ⟨RM, "under", "(I)J"⟩
abbrev cM_rounded : ByteArray := prog_10_method_12_code
def yM_rounded : MethodName := ⟨RM, "rounded", "(JJI)J"⟩
abbrev cM_open : ByteArray := prog_10_method_20_code
def yM_open : MethodName := ⟨RM, "open", "(IIIIIZ)I"⟩
abbrev cM_reckon : ByteArray := prog_10_method_19_code
def yM_reckon : MethodName := ⟨RM, "reckon", "(II)V"⟩
abbrev cM_firstBehind : ByteArray := prog_10_method_17_code
def yM_firstBehind : MethodName := ⟨RM, "firstBehind", "(I)I"⟩
abbrev cM_monthsSince : ByteArray := prog_10_method_16_code
def yM_monthsSince : MethodName := ⟨RM, "monthsSince", "(I)I"⟩
abbrev cM_dueDay : ByteArray := prog_10_method_8_code
def yM_dueDay : MethodName := ⟨RM, "dueDay", "(II)I"⟩
abbrev cM_dayOf : ByteArray := prog_10_method_7_code
def yM_dayOf : MethodName := ⟨RM, "dayOf", "(III)I"⟩
abbrev cM_leaves : ByteArray := prog_10_method_18_code
def yM_leaves : MethodName := ⟨RM, "leaves", "(IIII)Z"⟩
abbrev cM_own : ByteArray := prog_10_method_15_code
def yM_own : MethodName := ⟨RM, "own", "(IIII)I"⟩
abbrev cM_charge : ByteArray := prog_10_method_23_code
def yM_charge : MethodName := ⟨RM, "charge", "(II)V"⟩
abbrev cM_none : ByteArray := prog_10_method_21_code
def yM_none : MethodName := ⟨RM, "none", "(I)Z"⟩
abbrev cM_twelfth : ByteArray := prog_10_method_22_code
def yM_twelfth : MethodName := ⟨RM, "twelfth", "(I)I"⟩
abbrev cM_advance : ByteArray := prog_10_method_29_code
def yM_advance : MethodName := ⟨RM, "advance", "(I)I"⟩
abbrev cM_dayOfLoan : ByteArray := prog_10_method_28_code
def yM_dayOfLoan : MethodName := ⟨RM, "dayOfLoan", "(I)I"⟩
abbrev cM_billedOn : ByteArray := prog_10_method_25_code
def yM_billedOn : MethodName := ⟨RM, "billedOn", "(II)Z"⟩
abbrev cM_whichDue : ByteArray := prog_10_method_26_code
def yM_whichDue : MethodName := ⟨RM, "whichDue", "(I)I"⟩
abbrev cM_accrue : ByteArray := prog_10_method_24_code
def yM_accrue : MethodName := ⟨RM, "accrue", "(I)V"⟩
abbrev cM_makeBill : ByteArray := prog_10_method_27_code
def yM_makeBill : MethodName := ⟨RM, "makeBill", "(II)V"⟩
abbrev cM_pay : ByteArray := prog_10_method_30_code
def yM_pay : MethodName := ⟨RM, "pay", "(II)I"⟩
abbrev cM_part : ByteArray := prog_10_method_31_code
def yM_part : MethodName := ⟨RM, "part", "(II)I"⟩
abbrev cM_due : ByteArray := prog_10_method_32_code
def yM_due : MethodName := ⟨RM, "due", "(II)I"⟩
abbrev cM_principal : ByteArray := prog_10_method_35_code
def yM_principal : MethodName := ⟨RM, "principal", "(I)I"⟩
abbrev cM_at : ByteArray := prog_10_method_34_code
def yM_at : MethodName := ⟨RM, "at", "(I)I"⟩
abbrev cM_seen : ByteArray := prog_10_method_33_code
def yM_seen : MethodName := ⟨RM, "seen", "(II)I"⟩
abbrev cM_level : ByteArray := prog_10_method_36_code
def yM_level : MethodName := ⟨RM, "level", "(I)I"⟩
abbrev cM_accrued : ByteArray := prog_10_method_37_code
def yM_accrued : MethodName := ⟨RM, "accrued", "(I)I"⟩
abbrev cM_owed : ByteArray := prog_10_method_38_code
def yM_owed : MethodName := ⟨RM, "owed", "(II)I"⟩
abbrev cM_escrow : ByteArray := prog_10_method_39_code
def yM_escrow : MethodName := ⟨RM, "escrow", "(I)I"⟩
abbrev cM_deposit : ByteArray := prog_10_method_40_code
def yM_deposit : MethodName := ⟨RM, "deposit", "(I)I"⟩
abbrev cM_bills : ByteArray := prog_10_method_41_code
def yM_bills : MethodName := ⟨RM, "bills", "(I)I"⟩
abbrev cM_bill : ByteArray := prog_10_method_42_code
def yM_bill : MethodName := ⟨RM, "bill", "(III)I"⟩
abbrev cL_law : ByteArray := code
def yL_law : MethodName := ⟨RL, "law", "([I)Z"⟩
abbrev vwCl : List vw_C := [(RD, TD, 3), (RA, TA, 3), (RB, TB, 2), (RN, TN, 13), (RT, TT, 7), (RM, TM, 28)]
end
section
/-! the words of the tables that the walks use, in one list -/
def GW_0 : List Cond := [.initialized RL, .initialized RD, .initialized RM, .initialized "java/lang/Throwable", .initialized "java/lang/Exception", .initialized "java/lang/RuntimeException", .initialized "java/lang/IllegalArgumentException", .initialized "java/lang/IllegalStateException", .initialized RT, .initialized RY, .initialized RN, .initialized RA, .initialized RB, .initialized "java/lang/Math", .initialized RS, .initialized RC, .initialized "java/lang/IndexOutOfBoundsException", .initialized "java/util/NoSuchElementException", .classLink RL 8 RD, .instantiable RD 3, .methodLink RL 68 yD_init, .instanceMethod yD_init, .code yD_init cD_init 1 none, .methodLink RD 1 objectInit, .instanceMethod objectInit, .code objectInit ⟨#[0xb1]⟩ 1 none, .classLink RD 9 RN, .fieldLink RD 11 "LoanDesk" "loans" "[LLoanDesk$Loan;", .fieldLink RD 15 "LoanDesk" "loanCount" "I", .fieldLink RD 19 "LoanDesk" "today" "I", .laysFinal RD "LoanDesk" "loans" "[LLoanDesk$Loan;", (Jvm.Cond.soleField "LoanDesk" "loans"), .lays RD "LoanDesk" "loanCount" "I", (Jvm.Cond.soleField "LoanDesk" "loanCount"), .lays RD "LoanDesk" "today" "I", (Jvm.Cond.soleField "LoanDesk" "today"), (Jvm.Cond.superclass "LoanDesk" "java/lang/Object"), .methodLink RL 97 yD_date, .instanceMethod yD_date, .selects RD yD_date yD_date]
theorem GW_0_good : GW_0.all goodWord = true := by decide +kernel
def GW_1 : List Cond := [.code yD_date cD_date 2 (some .int), .methodLink RD 76 yY_monthOf, .static yY_monthOf, .code yY_monthOf cY_monthOf 4 (some .int), .methodLink RD 82 yY_numberInMonth, .static yY_numberInMonth, .code yY_numberInMonth cY_numberInMonth 1 (some .int), .methodLink RY 9 yY_monthOf, .methodLink RY 13 yY_firstDayOf, .static yY_firstDayOf, .code yY_firstDayOf cY_firstDayOf 4 (some .int), .methodLink RL 72 yL_open, .static yL_open, .codeWith yL_open cL_open 9 (some .int) [(0, 18, 21, 13), (0, 18, 25, 15)], .classLink RL 13 "java/lang/IllegalArgumentException", .classLink RL 15 "java/lang/IllegalStateException", .methodLink RL 7 yD_open, .instanceMethod yD_open, .selects RD yD_open yD_open, .code yD_open cD_open 9 (some .int), .constant RD 22 (100000000), .methodLink RD 23 yD_within, .static yD_within, .code yD_within cD_within 3 (some .boolean), .classLink RD 27 "java/lang/IllegalArgumentException", .instantiable "java/lang/IllegalArgumentException" 6, .selects "java/lang/IllegalArgumentException" ⟨"java/lang/Throwable", "fillInStackTrace", "(I)Ljava/lang/Throwable;"⟩ ⟨"java/lang/Throwable", "fillInStackTrace", "(I)Ljava/lang/Throwable;"⟩, .selects "java/lang/IllegalArgumentException" ⟨"java/lang/Throwable", "fillInStackTrace", "()Ljava/lang/Throwable;"⟩ ⟨"java/lang/Throwable", "fillInStackTrace", "()Ljava/lang/Throwable;"⟩, .lays "java/lang/IllegalArgumentException" "java/lang/Throwable" "cause" "Ljava/lang/Throwable;", .lays "java/lang/Throwable" "java/lang/Throwable" "cause" "Ljava/lang/Throwable;", .lays "java/lang/IllegalArgumentException" "java/lang/Throwable" "stackTrace" "[Ljava/lang/StackTraceElement;", .lays "java/lang/Throwable" "java/lang/Throwable" "stackTrace" "[Ljava/lang/StackTraceElement;", .lays "java/lang/IllegalArgumentException" "java/lang/Throwable" "suppressedExceptions" "Ljava/util/List;", .lays "java/lang/Throwable" "java/lang/Throwable" "suppressedExceptions" "Ljava/util/List;", .lays "java/lang/IllegalArgumentException" "java/lang/Throwable" "detailMessage" "Ljava/lang/String;", .lays "java/lang/Throwable" "java/lang/Throwable" "detailMessage" "Ljava/lang/String;", .lays "java/lang/IllegalArgumentException" "java/lang/Throwable" "backtrace" "Ljava/lang/Object;", .lays "java/lang/Throwable" "java/lang/Throwable" "backtrace" "Ljava/lang/Object;", .fieldLink "java/lang/Throwable" 198 "java/lang/Throwable" "backtrace" "Ljava/lang/Object;", (Jvm.Cond.superclass "java/lang/Throwable" "java/lang/Object")]
theorem GW_1_good : GW_1.all goodWord = true := by decide +kernel
def GW_2 : List Cond := [.instanceMethod ⟨"java/lang/Throwable", "<init>", "()V"⟩, (Jvm.Cond.code ({ cls := "java/lang/Throwable", name := "<init>", desc := "()V" } : Jvm.MethodName) prog_17_method_1_code (1 : Nat) (Option.none : Option Jvm.ClassFile.FieldType)), .methodLink "java/lang/Throwable" 1 objectInit, .fieldLink "java/lang/Throwable" 13 "java/lang/Throwable" "UNASSIGNED_STACK" "[Ljava/lang/StackTraceElement;", .fieldLink "java/lang/Throwable" 20 "java/lang/Throwable" "SUPPRESSED_SENTINEL" "Ljava/util/List;", .methodLink "java/lang/Throwable" 27 ⟨"java/lang/Throwable", "fillInStackTrace", "()Ljava/lang/Throwable;"⟩, .instanceMethod ⟨"java/lang/Throwable", "fillInStackTrace", "()Ljava/lang/Throwable;"⟩, (Jvm.Cond.sameMethod "java/lang/Throwable" "java/lang/Throwable" "fillInStackTrace" "()Ljava/lang/Throwable;"), .selects "java/lang/IllegalStateException" ⟨"java/lang/Throwable", "fillInStackTrace", "()Ljava/lang/Throwable;"⟩ ⟨"java/lang/Throwable", "fillInStackTrace", "()Ljava/lang/Throwable;"⟩, .selects "java/lang/IndexOutOfBoundsException" ⟨"java/lang/Throwable", "fillInStackTrace", "()Ljava/lang/Throwable;"⟩ ⟨"java/lang/Throwable", "fillInStackTrace", "()Ljava/lang/Throwable;"⟩, .selects "java/util/NoSuchElementException" ⟨"java/lang/Throwable", "fillInStackTrace", "()Ljava/lang/Throwable;"⟩ ⟨"java/lang/Throwable", "fillInStackTrace", "()Ljava/lang/Throwable;"⟩, (Jvm.Cond.codeSync ({ cls := "java/lang/Throwable", name := "fillInStackTrace", desc := "()Ljava/lang/Throwable;" } : Jvm.MethodName) prog_17_method_18_code (1 : Nat) (Option.some (Jvm.ClassFile.FieldType.object "java/lang/Throwable"))), .methodLink "java/lang/Throwable" 202 ⟨"java/lang/Throwable", "fillInStackTrace", "(I)Ljava/lang/Throwable;"⟩, .instanceMethod ⟨"java/lang/Throwable", "fillInStackTrace", "(I)Ljava/lang/Throwable;"⟩, .instantiable "java/lang/Throwable" 6, (Jvm.Cond.native ({ cls := "java/lang/Throwable", name := "fillInStackTrace", desc := "(I)Ljava/lang/Throwable;" } : Jvm.MethodName)), .methodLink RD 29 ⟨"java/lang/IllegalArgumentException", "<init>", "()V"⟩, .instanceMethod ⟨"java/lang/IllegalArgumentException", "<init>", "()V"⟩, (Jvm.Cond.code ({ cls := "java/lang/IllegalArgumentException", name := "<init>", desc := "()V" } : Jvm.MethodName) prog_12_method_1_code (1 : Nat) (Option.none : Option Jvm.ClassFile.FieldType)), .methodLink "java/lang/IllegalArgumentException" 1 ⟨"java/lang/RuntimeException", "<init>", "()V"⟩, .instanceMethod ⟨"java/lang/RuntimeException", "<init>", "()V"⟩, (Jvm.Cond.code ({ cls := "java/lang/RuntimeException", name := "<init>", desc := "()V" } : Jvm.MethodName) prog_16_method_1_code (1 : Nat) (Option.none : Option Jvm.ClassFile.FieldType)), .methodLink "java/lang/RuntimeException" 1 ⟨"java/lang/Exception", "<init>", "()V"⟩, .instanceMethod ⟨"java/lang/Exception", "<init>", "()V"⟩, (Jvm.Cond.code ({ cls := "java/lang/Exception", name := "<init>", desc := "()V" } : Jvm.MethodName) prog_11_method_1_code (1 : Nat) (Option.none : Option Jvm.ClassFile.FieldType)), .methodLink "java/lang/Exception" 1 ⟨"java/lang/Throwable", "<init>", "()V"⟩, .fieldLink "java/lang/Throwable" 198 "java/lang/Throwable" "backtrace" "Ljava/lang/Object;", .fieldLink "java/lang/Throwable" 7 "java/lang/Throwable" "cause" "Ljava/lang/Throwable;", .fieldLink "java/lang/Throwable" 17 "java/lang/Throwable" "stackTrace" "[Ljava/lang/StackTraceElement;", .fieldLink "java/lang/Throwable" 24 "java/lang/Throwable" "suppressedExceptions" "Ljava/util/List;", (Jvm.Cond.soleField "java/lang/Throwable" "backtrace"), (Jvm.Cond.soleField "java/lang/Throwable" "detailMessage"), (Jvm.Cond.soleField "java/lang/Throwable" "cause"), (Jvm.Cond.soleField "java/lang/Throwable" "stackTrace"), .lays "java/lang/IllegalArgumentException" "java/lang/Throwable" "depth" "I", (Jvm.Cond.soleField "java/lang/Throwable" "depth"), (Jvm.Cond.soleField "java/lang/Throwable" "suppressedExceptions"), (Jvm.Cond.superclass "java/lang/IllegalArgumentException" "java/lang/RuntimeException"), .classLink RD 30 "java/lang/IllegalStateException", .instantiable "java/lang/IllegalStateException" 6]
theorem GW_2_good : GW_2.all goodWord = true := by decide +kernel
def GW_3 : List Cond := [.selects "java/lang/IllegalStateException" ⟨"java/lang/Throwable", "fillInStackTrace", "(I)Ljava/lang/Throwable;"⟩ ⟨"java/lang/Throwable", "fillInStackTrace", "(I)Ljava/lang/Throwable;"⟩, .lays "java/lang/IllegalStateException" "java/lang/Throwable" "cause" "Ljava/lang/Throwable;", .lays "java/lang/IllegalStateException" "java/lang/Throwable" "stackTrace" "[Ljava/lang/StackTraceElement;", .lays "java/lang/IllegalStateException" "java/lang/Throwable" "suppressedExceptions" "Ljava/util/List;", .lays "java/lang/IllegalStateException" "java/lang/Throwable" "detailMessage" "Ljava/lang/String;", .lays "java/lang/IllegalStateException" "java/lang/Throwable" "backtrace" "Ljava/lang/Object;", .methodLink RD 32 ⟨"java/lang/IllegalStateException", "<init>", "()V"⟩, .instanceMethod ⟨"java/lang/IllegalStateException", "<init>", "()V"⟩, (Jvm.Cond.code ({ cls := "java/lang/IllegalStateException", name := "<init>", desc := "()V" } : Jvm.MethodName) prog_13_method_1_code (1 : Nat) (Option.none : Option Jvm.ClassFile.FieldType)), .methodLink "java/lang/IllegalStateException" 1 ⟨"java/lang/RuntimeException", "<init>", "()V"⟩, .lays "java/lang/IllegalStateException" "java/lang/Throwable" "depth" "I", (Jvm.Cond.superclass "java/lang/IllegalStateException" "java/lang/RuntimeException"), .classLink RD 33 RT, .instantiable RT 7, .methodLink RD 35 yT_init, .instanceMethod yT_init, .code yT_init cT_init 7 none, .methodLink RT 1 objectInit, .methodLink RT 26 yY_monthOf, .methodLink RT 35 yY_numberInMonth, .fieldLink RT 7 "LoanDesk$Terms" "rate" "I", .fieldLink RN 67 "LoanDesk$Terms" "rate" "I", .fieldLink RT 13 "LoanDesk$Terms" "months" "I", .fieldLink RN 118 "LoanDesk$Terms" "months" "I", .fieldLink RT 16 "LoanDesk$Terms" "rule" "I", .fieldLink RN 55 "LoanDesk$Terms" "rule" "I", .fieldLink RT 19 "LoanDesk$Terms" "rounding" "I", .fieldLink RN 70 "LoanDesk$Terms" "rounding" "I", .fieldLink RT 22 "LoanDesk$Terms" "steady" "Z", .fieldLink RN 143 "LoanDesk$Terms" "steady" "Z", .fieldLink RT 32 "LoanDesk$Terms" "monthOpened" "I", .fieldLink RT 38 "LoanDesk$Terms" "numberInMonth" "I", .laysFinal RT "LoanDesk$Terms" "rate" "I", (Jvm.Cond.soleField "LoanDesk$Terms" "rate"), .laysFinal RT "LoanDesk$Terms" "months" "I", (Jvm.Cond.soleField "LoanDesk$Terms" "months"), .laysFinal RT "LoanDesk$Terms" "rule" "I", (Jvm.Cond.soleField "LoanDesk$Terms" "rule"), .laysFinal RT "LoanDesk$Terms" "rounding" "I", (Jvm.Cond.soleField "LoanDesk$Terms" "rounding")]
theorem GW_3_good : GW_3.all goodWord = true := by decide +kernel
def GW_4 : List Cond := [.laysFinal RT "LoanDesk$Terms" "steady" "Z", (Jvm.Cond.soleField "LoanDesk$Terms" "steady"), .laysFinal RT "LoanDesk$Terms" "monthOpened" "I", (Jvm.Cond.soleField "LoanDesk$Terms" "monthOpened"), .laysFinal RT "LoanDesk$Terms" "numberInMonth" "I", (Jvm.Cond.soleField "LoanDesk$Terms" "numberInMonth"), (Jvm.Cond.superclass "LoanDesk$Terms" "java/lang/Object"), .instantiable RN 13, .methodLink RD 38 yN_init, .instanceMethod yN_init, .code yN_init cN_init 4 none, .methodLink RN 3 objectInit, .classLink RN 19 RA, .instantiable RA 3, .instanceMethod yA_init, .code yA_init cA_init 1 none, .methodLink RA 1 objectInit, .fieldLink RA 22 "LoanDesk$Account" "balance" "I", .fieldLink RN 136 "LoanDesk$Account" "balance" "I", .fieldLink RD 104 "LoanDesk$Account" "balance" "I", .fieldLink RA 19 "LoanDesk$Account" "deposit" "I", .fieldLink RN 111 "LoanDesk$Account" "deposit" "I", .fieldLink RD 107 "LoanDesk$Account" "deposit" "I", .fieldLink RA 7 "LoanDesk$Account" "yearlyCharge" "I", .lays RA "LoanDesk$Account" "balance" "I", (Jvm.Cond.soleField "LoanDesk$Account" "balance"), .lays RA "LoanDesk$Account" "deposit" "I", (Jvm.Cond.soleField "LoanDesk$Account" "deposit"), .lays RA "LoanDesk$Account" "yearlyCharge" "I", (Jvm.Cond.soleField "LoanDesk$Account" "yearlyCharge"), (Jvm.Cond.superclass "LoanDesk$Account" "java/lang/Object"), .classLink RN 26 RB, .instantiable RB 2, .instanceMethod yB_init, .code yB_init cB_init 1 none, .methodLink RB 1 objectInit, .fieldLink RB 9 "LoanDesk$BillBook" "entries" "[I", .fieldLink RD 122 "LoanDesk$BillBook" "entries" "[I", .fieldLink RB 13 "LoanDesk$BillBook" "count" "I", .fieldLink RD 114 "LoanDesk$BillBook" "count" "I"]
theorem GW_4_good : GW_4.all goodWord = true := by decide +kernel
def GW_5 : List Cond := [.laysFinal RB "LoanDesk$BillBook" "entries" "[I", (Jvm.Cond.soleField "LoanDesk$BillBook" "entries"), .lays RB "LoanDesk$BillBook" "count" "I", (Jvm.Cond.soleField "LoanDesk$BillBook" "count"), (Jvm.Cond.superclass "LoanDesk$BillBook" "java/lang/Object"), .arrayClass .int, .methodLink RN 43 yT_dueDay, .instanceMethod yT_dueDay, .selects RT yT_dueDay yT_dueDay, .code yT_dueDay cT_dueDay 4 (some .int), .methodLink RT 40 yY_firstDayOf, .methodLink RT 43 Lib.Math.min.name, .static Lib.Math.min.name, .code Lib.Math.min.name Lib.Math.min.code 2 (some .int), .fieldLink RN 9 "LoanDesk$Loan" "terms" "LLoanDesk$Terms;", .fieldLink RD 85 "LoanDesk$Loan" "terms" "LLoanDesk$Terms;", .fieldLink RN 22 "LoanDesk$Loan" "account" "LLoanDesk$Account;", .fieldLink RD 50 "LoanDesk$Loan" "account" "LLoanDesk$Account;", .fieldLink RN 29 "LoanDesk$Loan" "billBook" "LLoanDesk$BillBook;", .fieldLink RD 110 "LoanDesk$Loan" "billBook" "LLoanDesk$BillBook;", .fieldLink RN 33 "LoanDesk$Loan" "owed" "[I", .fieldLink RD 101 "LoanDesk$Loan" "owed" "[I", .fieldLink RN 37 "LoanDesk$Loan" "parts" "[I", .fieldLink RD 72 "LoanDesk$Loan" "parts" "[I", .fieldLink RD 68 "LoanDesk$Loan" "wasPaid" "Z", .fieldLink RN 139 "LoanDesk$Loan" "wasPaid" "Z", .fieldLink RN 15 "LoanDesk$Loan" "principal" "I", .fieldLink RD 92 "LoanDesk$Loan" "principal" "I", .fieldLink RN 121 "LoanDesk$Loan" "level" "I", .fieldLink RD 95 "LoanDesk$Loan" "level" "I", .fieldLink RN 64 "LoanDesk$Loan" "accrued" "I", .fieldLink RN 40 "LoanDesk$Loan" "accruedUpTo" "I", .fieldLink RN 89 "LoanDesk$Loan" "dueDaysPassed" "I", .fieldLink RN 49 "LoanDesk$Loan" "nextDueDay" "I", .fieldLink RN 52 "LoanDesk$Loan" "spanTops" "[I", .laysFinal RN "LoanDesk$Loan" "terms" "LLoanDesk$Terms;", (Jvm.Cond.soleField "LoanDesk$Loan" "terms"), .laysFinal RN "LoanDesk$Loan" "account" "LLoanDesk$Account;", (Jvm.Cond.soleField "LoanDesk$Loan" "account"), .laysFinal RN "LoanDesk$Loan" "billBook" "LLoanDesk$BillBook;"]
theorem GW_5_good : GW_5.all goodWord = true := by decide +kernel
def GW_6 : List Cond := [(Jvm.Cond.soleField "LoanDesk$Loan" "billBook"), .laysFinal RN "LoanDesk$Loan" "owed" "[I", (Jvm.Cond.soleField "LoanDesk$Loan" "owed"), .laysFinal RN "LoanDesk$Loan" "parts" "[I", (Jvm.Cond.soleField "LoanDesk$Loan" "parts"), .lays RN "LoanDesk$Loan" "wasPaid" "Z", (Jvm.Cond.soleField "LoanDesk$Loan" "wasPaid"), .lays RN "LoanDesk$Loan" "principal" "I", (Jvm.Cond.soleField "LoanDesk$Loan" "principal"), .lays RN "LoanDesk$Loan" "level" "I", (Jvm.Cond.soleField "LoanDesk$Loan" "level"), .lays RN "LoanDesk$Loan" "accrued" "I", (Jvm.Cond.soleField "LoanDesk$Loan" "accrued"), .lays RN "LoanDesk$Loan" "accruedUpTo" "I", (Jvm.Cond.soleField "LoanDesk$Loan" "accruedUpTo"), .lays RN "LoanDesk$Loan" "dueDaysPassed" "I", (Jvm.Cond.soleField "LoanDesk$Loan" "dueDaysPassed"), .lays RN "LoanDesk$Loan" "nextDueDay" "I", (Jvm.Cond.soleField "LoanDesk$Loan" "nextDueDay"), .laysFinal RN "LoanDesk$Loan" "spanTops" "[I", (Jvm.Cond.soleField "LoanDesk$Loan" "spanTops"), (Jvm.Cond.superclass "LoanDesk$Loan" "java/lang/Object"), .methodLink RD 41 yN_reckonLevel, .instanceMethod yN_reckonLevel, .selects RN yN_reckonLevel yN_reckonLevel, .code yN_reckonLevel cN_reckonLevel 4 none, .methodLink RN 149 yN_layOutSpans, .instanceMethod yN_layOutSpans, .code yN_layOutSpans cN_layOutSpans 6 (some .int), .methodLink RN 58 yS_top, .static yS_top, .code yS_top cS_top 4 (some .int), .methodLink RS 7 yY_thirties, .static yY_thirties, .code yY_thirties cY_thirties 3 (some .int), .methodLink RY 16 Lib.Math.min.name, .methodLink RS 13 yY_inLongYears, .static yY_inLongYears, .code yY_inLongYears cY_inLongYears 1 (some .int), .methodLink RN 152 yN_leastLevel]
theorem GW_6_good : GW_6.all goodWord = true := by decide +kernel
def GW_7 : List Cond := [.instanceMethod yN_leastLevel, .code yN_leastLevel cN_leastLevel 7 (some .int), .methodLink RN 73 yC_interestOn, .static yC_interestOn, .code yC_interestOn cC_interestOn 5 (some .int), .constantLong RC 9 (100000), .methodLink RC 11 yS_bottom, .static yS_bottom, .code yS_bottom cS_bottom 1 (some .int), .constant RS 16 (133590), .methodLink RC 17 yC_rounded, .static yC_rounded, .code yC_rounded cC_rounded 10 (some .int), .constantLong RC 21 (2), .methodLink RN 155 yN_leftInTheEnd, .instanceMethod yN_leftInTheEnd, .code yN_leftInTheEnd cN_leftInTheEnd 7 (some .int), .methodLink RN 130 Lib.Math.min.name, .methodLink RL 82 yL_charge, .static yL_charge, .codeWith yL_charge cL_charge 4 (some .int) [(0, 6, 9, 21), (0, 6, 12, 13)], .classLink RL 21 "java/lang/IndexOutOfBoundsException", .methodLink RL 17 yD_charge, .instanceMethod yD_charge, .selects RD yD_charge yD_charge, .code yD_charge cD_charge 4 none, .methodLink RD 45 yD_find, .instanceMethod yD_find, .code yD_find cD_find 2 (some (.object "LoanDesk$Loan")), .classLink RD 137 "java/lang/IndexOutOfBoundsException", .instantiable "java/lang/IndexOutOfBoundsException" 6, .selects "java/lang/IndexOutOfBoundsException" ⟨"java/lang/Throwable", "fillInStackTrace", "(I)Ljava/lang/Throwable;"⟩ ⟨"java/lang/Throwable", "fillInStackTrace", "(I)Ljava/lang/Throwable;"⟩, .lays "java/lang/IndexOutOfBoundsException" "java/lang/Throwable" "cause" "Ljava/lang/Throwable;", .lays "java/lang/IndexOutOfBoundsException" "java/lang/Throwable" "stackTrace" "[Ljava/lang/StackTraceElement;", .lays "java/lang/IndexOutOfBoundsException" "java/lang/Throwable" "suppressedExceptions" "Ljava/util/List;", .lays "java/lang/IndexOutOfBoundsException" "java/lang/Throwable" "detailMessage" "Ljava/lang/String;", .lays "java/lang/IndexOutOfBoundsException" "java/lang/Throwable" "backtrace" "Ljava/lang/Object;", .methodLink RD 139 ⟨"java/lang/IndexOutOfBoundsException", "<init>", "()V"⟩, .instanceMethod ⟨"java/lang/IndexOutOfBoundsException", "<init>", "()V"⟩, (Jvm.Cond.code ({ cls := "java/lang/IndexOutOfBoundsException", name := "<init>", desc := "()V" } : Jvm.MethodName) prog_14_method_1_code (1 : Nat) (Option.none : Option Jvm.ClassFile.FieldType))]
theorem GW_7_good : GW_7.all goodWord = true := by decide +kernel
def GW_8 : List Cond := [.methodLink "java/lang/IndexOutOfBoundsException" 1 ⟨"java/lang/RuntimeException", "<init>", "()V"⟩, .lays "java/lang/IndexOutOfBoundsException" "java/lang/Throwable" "depth" "I", (Jvm.Cond.superclass "java/lang/IndexOutOfBoundsException" "java/lang/RuntimeException"), .constant RD 49 (10000000), .methodLink RD 54 yA_agreeOn, .instanceMethod yA_agreeOn, .selects RA yA_agreeOn yA_agreeOn, .code yA_agreeOn cA_agreeOn 2 none, .methodLink RA 13 yC_twelfth, .static yC_twelfth, .code yC_twelfth cC_twelfth 1 (some .int), .methodLink RL 86 yL_advance, .static yL_advance, .codeWith yL_advance cL_advance 4 (some .int) [(0, 9, 12, 13), (0, 9, 15, 15)], .methodLink RL 23 yD_advance, .instanceMethod yD_advance, .selects RD yD_advance yD_advance, .code yD_advance cD_advance 5 (some .int), .methodLink RD 59 yN_beginDay, .instanceMethod yN_beginDay, .selects RN yN_beginDay yN_beginDay, .code yN_beginDay cN_beginDay 2 (some .boolean), .methodLink RN 82 yB_latestIsOf, .instanceMethod yB_latestIsOf, .selects RB yB_latestIsOf yB_latestIsOf, .code yB_latestIsOf cB_latestIsOf 2 (some .boolean), .methodLink RN 86 yN_addLateFee, .instanceMethod yN_addLateFee, .code yN_addLateFee cN_addLateFee 3 none, .constantLong RN 102 (20), .methodLink RN 104 yC_rounded, .methodLink RN 92 yA_payCharge, .instanceMethod yA_payCharge, .selects RA yA_payCharge yA_payCharge, .code yA_payCharge cA_payCharge 1 none, .methodLink RA 25 Lib.Math.max.name, .static Lib.Math.max.name, .code Lib.Math.max.name Lib.Math.max.code 2 (some .int), .methodLink RN 95 yN_accrue, .instanceMethod yN_accrue]
theorem GW_8_good : GW_8.all goodWord = true := by decide +kernel
def GW_9 : List Cond := [.code yN_accrue cN_accrue 2 none, .methodLink RN 79 yN_accruedBy, .instanceMethod yN_accruedBy, .selects RN yN_accruedBy yN_accruedBy, .code yN_accruedBy cN_accruedBy 3 (some .int), .methodLink RN 99 yN_makeBill, .instanceMethod yN_makeBill, .code yN_makeBill cN_makeBill 5 none, .methodLink RN 108 yN_partToBill, .instanceMethod yN_partToBill, .code yN_partToBill cN_partToBill 3 (some .int), .methodLink RN 124 Lib.Math.max.name, .methodLink RN 114 yB_add, .instanceMethod yB_add, .selects RB yB_add yB_add, .code yB_add cB_add 7 none, .methodLink RL 90 yL_pay, .static yL_pay, .codeWith yL_pay cL_pay 5 (some .int) [(0, 10, 13, 21), (0, 10, 17, 13)], .methodLink RL 27 yD_pay, .instanceMethod yD_pay, .selects RD yD_pay yD_pay, .code yD_pay cD_pay 4 (some .int), .constant RD 63 (200000000), .methodLink RD 64 yN_takePayment, .instanceMethod yN_takePayment, .selects RN yN_takePayment yN_takePayment, .code yN_takePayment cN_takePayment 5 (some .int), .methodLink RN 133 yN_splitPayment, .instanceMethod yN_splitPayment, .code yN_splitPayment cN_splitPayment 4 none, .methodLink RN 146 yN_reckonLevel, .methodLink RL 94 yL_part, .static yL_part, .codeWith yL_part cL_part 5 (some .int) [(0, 10, 13, 21), (0, 10, 17, 13), (0, 10, 21, 15)], .methodLink RL 31 yD_part, .instanceMethod yD_part, .selects RD yD_part yD_part, .code yD_part cD_part 4 (some .int), .methodLink RL 101 yL_due]
theorem GW_9_good : GW_9.all goodWord = true := by decide +kernel
def GW_10 : List Cond := [.static yL_due, .codeWith yL_due cL_due 5 (some .int) [(0, 10, 13, 21), (0, 10, 17, 13)], .methodLink RL 34 yD_due, .instanceMethod yD_due, .selects RD yD_due yD_due, .code yD_due cD_due 4 (some .int), .methodLink RD 89 yT_dueDay, .methodLink RL 104 yL_principal, .static yL_principal, .codeWith yL_principal cL_principal 4 (some .int) [(0, 9, 12, 21)], .methodLink RL 37 yD_principal, .instanceMethod yD_principal, .selects RD yD_principal yD_principal, .code yD_principal cD_principal 2 (some .int), .methodLink RL 107 yL_level, .static yL_level, .codeWith yL_level cL_level 4 (some .int) [(0, 9, 12, 21)], .methodLink RL 40 yD_level, .instanceMethod yD_level, .selects RD yD_level yD_level, .code yD_level cD_level 2 (some .int), .methodLink RL 110 yL_accrued, .static yL_accrued, .codeWith yL_accrued cL_accrued 4 (some .int) [(0, 9, 12, 21)], .methodLink RL 43 yD_accrued, .instanceMethod yD_accrued, .selects RD yD_accrued yD_accrued, .code yD_accrued cD_accrued 2 (some .int), .methodLink RD 98 yN_accruedBy, .methodLink RL 113 yL_owed, .static yL_owed, .codeWith yL_owed cL_owed 5 (some .int) [(0, 10, 13, 21), (0, 10, 17, 13)], .methodLink RL 46 yD_owed, .instanceMethod yD_owed, .selects RD yD_owed yD_owed, .code yD_owed cD_owed 4 (some .int), .methodLink RL 116 yL_escrow, .static yL_escrow, .codeWith yL_escrow cL_escrow 4 (some .int) [(0, 9, 12, 21)], .methodLink RL 49 yD_escrow]
theorem GW_10_good : GW_10.all goodWord = true := by decide +kernel
def GW_11 : List Cond := [.instanceMethod yD_escrow, .selects RD yD_escrow yD_escrow, .code yD_escrow cD_escrow 2 (some .int), .methodLink RL 119 yL_deposit, .static yL_deposit, .codeWith yL_deposit cL_deposit 4 (some .int) [(0, 9, 12, 21)], .methodLink RL 52 yD_deposit, .instanceMethod yD_deposit, .selects RD yD_deposit yD_deposit, .code yD_deposit cD_deposit 2 (some .int), .methodLink RL 122 yL_bills, .static yL_bills, .codeWith yL_bills cL_bills 4 (some .int) [(0, 9, 12, 21)], .methodLink RL 55 yD_bills, .instanceMethod yD_bills, .selects RD yD_bills yD_bills, .code yD_bills cD_bills 2 (some .int), .methodLink RL 125 yL_bill, .static yL_bill, .codeWith yL_bill cL_bill 6 (some .int) [(0, 12, 15, 21), (0, 12, 19, 13), (0, 12, 23, 62)], .classLink RL 62 "java/util/NoSuchElementException", .methodLink RL 58 yD_bill, .instanceMethod yD_bill, .selects RD yD_bill yD_bill, .code yD_bill cD_bill 5 (some .int), .classLink RD 119 "java/util/NoSuchElementException", .instantiable "java/util/NoSuchElementException" 6, .selects "java/util/NoSuchElementException" ⟨"java/lang/Throwable", "fillInStackTrace", "(I)Ljava/lang/Throwable;"⟩ ⟨"java/lang/Throwable", "fillInStackTrace", "(I)Ljava/lang/Throwable;"⟩, .lays "java/util/NoSuchElementException" "java/lang/Throwable" "cause" "Ljava/lang/Throwable;", .lays "java/util/NoSuchElementException" "java/lang/Throwable" "stackTrace" "[Ljava/lang/StackTraceElement;", .lays "java/util/NoSuchElementException" "java/lang/Throwable" "suppressedExceptions" "Ljava/util/List;", .lays "java/util/NoSuchElementException" "java/lang/Throwable" "detailMessage" "Ljava/lang/String;", .lays "java/util/NoSuchElementException" "java/lang/Throwable" "backtrace" "Ljava/lang/Object;", .methodLink RD 121 ⟨"java/util/NoSuchElementException", "<init>", "()V"⟩, .instanceMethod ⟨"java/util/NoSuchElementException", "<init>", "()V"⟩, (Jvm.Cond.code ({ cls := "java/util/NoSuchElementException", name := "<init>", desc := "()V" } : Jvm.MethodName) prog_18_method_1_code (1 : Nat) (Option.none : Option Jvm.ClassFile.FieldType)), .methodLink "java/util/NoSuchElementException" 1 ⟨"java/lang/RuntimeException", "<init>", "()V"⟩, .lays "java/util/NoSuchElementException" "java/lang/Throwable" "depth" "I", (Jvm.Cond.superclass "java/util/NoSuchElementException" "java/lang/RuntimeException"), .methodLink RL 129 yL_interest]
theorem GW_11_good : GW_11.all goodWord = true := by decide +kernel
def GW_12 : List Cond := [.static yL_interest, .codeWith yL_interest cL_interest 9 (some .int) [(0, 18, 21, 13)], .methodLink RL 64 yD_interest, .instanceMethod yD_interest, .selects RD yD_interest yD_interest, .code yD_interest cD_interest 7 (some .int), .methodLink RD 125 yS_top, .methodLink RD 131 yC_interestOn, .classLink RL 69 RM, .instantiable RM 28, .methodLink RL 71 yM_init, .instanceMethod yM_init, .code yM_init cM_init 1 none, .methodLink RM 1 objectInit, .fieldLink RM 77 "LoanDeskModel" "code" "I", .fieldLink RM 106 "LoanDeskModel" "today" "I", .fieldLink RM 160 "LoanDeskModel" "loans" "I", .fieldLink RM 7 "LoanDeskModel" "opened" "[I", .fieldLink RM 13 "LoanDeskModel" "rate" "[I", .fieldLink RM 16 "LoanDeskModel" "months" "[I", .fieldLink RM 19 "LoanDeskModel" "rule" "[I", .fieldLink RM 22 "LoanDeskModel" "rounding" "[I", .fieldLink RM 25 "LoanDeskModel" "steady" "[Z", .fieldLink RM 29 "LoanDeskModel" "principal" "[I", .fieldLink RM 32 "LoanDeskModel" "level" "[I", .fieldLink RM 35 "LoanDeskModel" "accrued" "[I", .fieldLink RM 38 "LoanDeskModel" "upTo" "[I", .fieldLink RM 41 "LoanDeskModel" "escrow" "[I", .fieldLink RM 44 "LoanDeskModel" "charge" "[I", .fieldLink RM 47 "LoanDeskModel" "deposit" "[I", .fieldLink RM 50 "LoanDeskModel" "owed" "[I", .fieldLink RM 53 "LoanDeskModel" "paid" "[Z", .fieldLink RM 56 "LoanDeskModel" "parts" "[I", .fieldLink RM 59 "LoanDeskModel" "bills" "[I", .fieldLink RM 62 "LoanDeskModel" "billDay" "[I", .fieldLink RM 65 "LoanDeskModel" "billPrincipal" "[I", .fieldLink RM 68 "LoanDeskModel" "billInterest" "[I", .fieldLink RM 71 "LoanDeskModel" "billPart" "[I", .fieldLink RM 74 "LoanDeskModel" "billDeposit" "[I", .fieldLink RM 85 "LoanDeskModel" "year" "I"]
theorem GW_12_good : GW_12.all goodWord = true := by decide +kernel
def GW_13 : List Cond := [.fieldLink RM 88 "LoanDeskModel" "month" "I", .fieldLink RM 95 "LoanDeskModel" "number" "I", .lays RM "LoanDeskModel" "code" "I", (Jvm.Cond.soleField "LoanDeskModel" "code"), .lays RM "LoanDeskModel" "today" "I", (Jvm.Cond.soleField "LoanDeskModel" "today"), .lays RM "LoanDeskModel" "loans" "I", (Jvm.Cond.soleField "LoanDeskModel" "loans"), .lays RM "LoanDeskModel" "opened" "[I", (Jvm.Cond.soleField "LoanDeskModel" "opened"), .lays RM "LoanDeskModel" "rate" "[I", (Jvm.Cond.soleField "LoanDeskModel" "rate"), .lays RM "LoanDeskModel" "months" "[I", (Jvm.Cond.soleField "LoanDeskModel" "months"), .lays RM "LoanDeskModel" "rule" "[I", (Jvm.Cond.soleField "LoanDeskModel" "rule"), .lays RM "LoanDeskModel" "rounding" "[I", (Jvm.Cond.soleField "LoanDeskModel" "rounding"), .lays RM "LoanDeskModel" "steady" "[Z", (Jvm.Cond.soleField "LoanDeskModel" "steady"), .lays RM "LoanDeskModel" "principal" "[I", (Jvm.Cond.soleField "LoanDeskModel" "principal"), .lays RM "LoanDeskModel" "level" "[I", (Jvm.Cond.soleField "LoanDeskModel" "level"), .lays RM "LoanDeskModel" "accrued" "[I", (Jvm.Cond.soleField "LoanDeskModel" "accrued"), .lays RM "LoanDeskModel" "upTo" "[I", (Jvm.Cond.soleField "LoanDeskModel" "upTo"), .lays RM "LoanDeskModel" "escrow" "[I", (Jvm.Cond.soleField "LoanDeskModel" "escrow"), .lays RM "LoanDeskModel" "charge" "[I", (Jvm.Cond.soleField "LoanDeskModel" "charge"), .lays RM "LoanDeskModel" "deposit" "[I", (Jvm.Cond.soleField "LoanDeskModel" "deposit"), .lays RM "LoanDeskModel" "owed" "[I", (Jvm.Cond.soleField "LoanDeskModel" "owed"), .lays RM "LoanDeskModel" "paid" "[Z", (Jvm.Cond.soleField "LoanDeskModel" "paid"), .lays RM "LoanDeskModel" "parts" "[I", (Jvm.Cond.soleField "LoanDeskModel" "parts")]
theorem GW_13_good : GW_13.all goodWord = true := by decide +kernel
def GW_14 : List Cond := [.lays RM "LoanDeskModel" "bills" "[I", (Jvm.Cond.soleField "LoanDeskModel" "bills"), .lays RM "LoanDeskModel" "billDay" "[I", (Jvm.Cond.soleField "LoanDeskModel" "billDay"), .lays RM "LoanDeskModel" "billPrincipal" "[I", (Jvm.Cond.soleField "LoanDeskModel" "billPrincipal"), .lays RM "LoanDeskModel" "billInterest" "[I", (Jvm.Cond.soleField "LoanDeskModel" "billInterest"), .lays RM "LoanDeskModel" "billPart" "[I", (Jvm.Cond.soleField "LoanDeskModel" "billPart"), .lays RM "LoanDeskModel" "billDeposit" "[I", (Jvm.Cond.soleField "LoanDeskModel" "billDeposit"), .lays RM "LoanDeskModel" "year" "I", (Jvm.Cond.soleField "LoanDeskModel" "year"), .lays RM "LoanDeskModel" "month" "I", (Jvm.Cond.soleField "LoanDeskModel" "month"), .lays RM "LoanDeskModel" "number" "I", (Jvm.Cond.soleField "LoanDeskModel" "number"), (Jvm.Cond.superclass "LoanDeskModel" "java/lang/Object"), .arrayClass .boolean, .methodLink RL 78 yM_thrown, .instanceMethod yM_thrown, .selects RM yM_thrown yM_thrown, .code yM_thrown cM_thrown 1 (some .int), .methodLink RL 100 yM_date, .instanceMethod yM_date, .selects RM yM_date yM_date, .code yM_date cM_date 1 (some .int), .methodLink RM 98 yM_find, .instanceMethod yM_find, .code yM_find cM_find 3 none, .methodLink RM 81 yM_daysOf, .static yM_daysOf, .code yM_daysOf cM_daysOf 1 (some .int), .methodLink RM 91 yM_daysIn, .static yM_daysIn, .code yM_daysIn cM_daysIn 2 (some .int), .methodLink RL 132 yM_interest, .instanceMethod yM_interest, .selects RM yM_interest yM_interest]
theorem GW_14_good : GW_14.all goodWord = true := by decide +kernel
def GW_15 : List Cond := [.code yM_interest cM_interest 8 (some .int), .constant RM 133 (100000000), .methodLink RM 134 yM_within, .static yM_within, .code yM_within cM_within 3 (some .boolean), .methodLink RM 138 yM_interestOn, .instanceMethod yM_interestOn, .code yM_interestOn cM_interestOn 7 (some .int), .methodLink RM 119 yM_span, .instanceMethod yM_span, .code yM_span cM_span 11 (some .long), .constantLong RM 109 (365), .constantLong RM 115 (366), .constantLong RM 123 (100000), .methodLink RM 125 yM_under, .static yM_under, .code yM_under cM_under 1 (some .long), .constantLong RM 111 (133590), .constantLong RM 113 (360), .methodLink RM 129 yM_rounded, .static yM_rounded, .code yM_rounded cM_rounded 10 (some .long), .constantLong RM 117 (2), .methodLink RL 77 yM_open, .instanceMethod yM_open, .selects RM yM_open yM_open, .code yM_open cM_open 9 (some .int), .methodLink RM 163 yM_reckon, .instanceMethod yM_reckon, .code yM_reckon cM_reckon 6 none, .methodLink RM 152 yM_firstBehind, .instanceMethod yM_firstBehind, .code yM_firstBehind cM_firstBehind 3 (some .int), .methodLink RM 142 yM_monthsSince, .instanceMethod yM_monthsSince, .code yM_monthsSince cM_monthsSince 3 (some .int), .methodLink RM 145 yM_dueDay, .instanceMethod yM_dueDay, .code yM_dueDay cM_dueDay 7 (some .int), .methodLink RM 102 yM_dayOf]
theorem GW_15_good : GW_15.all goodWord = true := by decide +kernel
def GW_16 : List Cond := [.static yM_dayOf, .code yM_dayOf cM_dayOf 5 (some .int), .constant RM 155 (134217728), .methodLink RM 156 yM_leaves, .instanceMethod yM_leaves, .code yM_leaves cM_leaves 10 (some .boolean), .methodLink RM 148 yM_own, .instanceMethod yM_own, .code yM_own cM_own 5 (some .int), .methodLink RL 85 yM_charge, .instanceMethod yM_charge, .selects RM yM_charge yM_charge, .code yM_charge cM_charge 3 none, .methodLink RM 167 yM_none, .instanceMethod yM_none, .code yM_none cM_none 2 (some .boolean), .constant RM 171 (10000000), .methodLink RM 172 yM_twelfth, .static yM_twelfth, .code yM_twelfth cM_twelfth 1 (some .int), .methodLink RL 89 yM_advance, .instanceMethod yM_advance, .selects RM yM_advance yM_advance, .code yM_advance cM_advance 5 (some .int), .methodLink RM 190 yM_dayOfLoan, .instanceMethod yM_dayOfLoan, .code yM_dayOfLoan cM_dayOfLoan 5 (some .int), .methodLink RM 175 yM_billedOn, .instanceMethod yM_billedOn, .code yM_billedOn cM_billedOn 5 (some .boolean), .constantLong RM 179 (20), .methodLink RM 181 yM_whichDue, .instanceMethod yM_whichDue, .code yM_whichDue cM_whichDue 3 (some .int), .methodLink RM 184 yM_accrue, .instanceMethod yM_accrue, .code yM_accrue cM_accrue 2 none, .methodLink RM 187 yM_makeBill, .instanceMethod yM_makeBill, .code yM_makeBill cM_makeBill 8 none]
theorem GW_16_good : GW_16.all goodWord = true := by decide +kernel
def GW_17 : List Cond := [.methodLink RL 93 yM_pay, .instanceMethod yM_pay, .selects RM yM_pay yM_pay, .code yM_pay cM_pay 7 (some .int), .constant RM 193 (200000000), .methodLink RL 96 yM_part, .instanceMethod yM_part, .selects RM yM_part yM_part, .code yM_part cM_part 3 (some .int), .methodLink RL 103 yM_due, .instanceMethod yM_due, .selects RM yM_due yM_due, .code yM_due cM_due 3 (some .int), .methodLink RL 106 yM_principal, .instanceMethod yM_principal, .selects RM yM_principal yM_principal, .code yM_principal cM_principal 3 (some .int), .methodLink RM 194 yM_at, .instanceMethod yM_at, .code yM_at cM_at 2 (some .int), .methodLink RM 197 yM_seen, .instanceMethod yM_seen, .code yM_seen cM_seen 3 (some .int), .methodLink RL 109 yM_level, .instanceMethod yM_level, .selects RM yM_level yM_level, .code yM_level cM_level 3 (some .int), .methodLink RL 112 yM_accrued, .instanceMethod yM_accrued, .selects RM yM_accrued yM_accrued, .code yM_accrued cM_accrued 3 (some .int), .methodLink RL 115 yM_owed, .instanceMethod yM_owed, .selects RM yM_owed yM_owed, .code yM_owed cM_owed 3 (some .int), .methodLink RL 118 yM_escrow, .instanceMethod yM_escrow, .selects RM yM_escrow yM_escrow, .code yM_escrow cM_escrow 3 (some .int), .methodLink RL 121 yM_deposit]
theorem GW_17_good : GW_17.all goodWord = true := by decide +kernel
def GW_18 : List Cond := [.instanceMethod yM_deposit, .selects RM yM_deposit yM_deposit, .code yM_deposit cM_deposit 3 (some .int), .methodLink RL 124 yM_bills, .instanceMethod yM_bills, .selects RM yM_bills yM_bills, .code yM_bills cM_bills 3 (some .int), .methodLink RL 128 yM_bill, .instanceMethod yM_bill, .selects RM yM_bill yM_bill, .code yM_bill cM_bill 5 (some .int), .arrayClass .long, (Jvm.Cond.sameMethod "java/lang/Throwable" "java/lang/Throwable" "fillInStackTrace" "(I)Ljava/lang/Throwable;"), .selects "java/lang/Throwable" ⟨"java/lang/Throwable", "fillInStackTrace", "(I)Ljava/lang/Throwable;"⟩ ⟨"java/lang/Throwable", "fillInStackTrace", "(I)Ljava/lang/Throwable;"⟩, .selects RN yN_layOutSpans yN_layOutSpans, .selects RN yN_leastLevel yN_leastLevel, .selects RN yN_leftInTheEnd yN_leftInTheEnd, .selects RD yD_find yD_find, .selects RN yN_addLateFee yN_addLateFee, .selects RN yN_accrue yN_accrue, .selects RN yN_makeBill yN_makeBill, .selects RN yN_partToBill yN_partToBill, .selects RN yN_splitPayment yN_splitPayment, .selects RM yM_find yM_find, .selects RM yM_interestOn yM_interestOn, .selects RM yM_span yM_span, .selects RM yM_reckon yM_reckon, .selects RM yM_firstBehind yM_firstBehind, .selects RM yM_monthsSince yM_monthsSince, .selects RM yM_dueDay yM_dueDay, .selects RM yM_leaves yM_leaves, .selects RM yM_own yM_own, .selects RM yM_none yM_none, .selects RM yM_dayOfLoan yM_dayOfLoan, .selects RM yM_billedOn yM_billedOn, .selects RM yM_whichDue yM_whichDue, .selects RM yM_accrue yM_accrue, .selects RM yM_makeBill yM_makeBill, .selects RM yM_at yM_at, .selects RM yM_seen yM_seen]
theorem GW_18_good : GW_18.all goodWord = true := by decide +kernel
def GW : List Cond := GW_0 ++ (GW_1 ++ (GW_2 ++ (GW_3 ++ (GW_4 ++ (GW_5 ++ (GW_6 ++ (GW_7 ++ (GW_8 ++ (GW_9 ++ (GW_10 ++ (GW_11 ++ (GW_12 ++ (GW_13 ++ (GW_14 ++ (GW_15 ++ (GW_16 ++ (GW_17 ++ (GW_18))))))))))))))))))
theorem gin_0 : ∀ w ∈ GW_0, w ∈ GW := fun w h => List.mem_append_left _ h
theorem gin_1 : ∀ w ∈ GW_1, w ∈ GW := fun w h => List.mem_append_right _ (List.mem_append_left _ h)
theorem gin_2 : ∀ w ∈ GW_2, w ∈ GW := fun w h => List.mem_append_right _ (List.mem_append_right _ (List.mem_append_left _ h))
theorem gin_3 : ∀ w ∈ GW_3, w ∈ GW := fun w h => List.mem_append_right _ (List.mem_append_right _ (List.mem_append_right _ (List.mem_append_left _ h)))
theorem gin_4 : ∀ w ∈ GW_4, w ∈ GW := fun w h => List.mem_append_right _ (List.mem_append_right _ (List.mem_append_right _ (List.mem_append_right _ (List.mem_append_left _ h))))
theorem gin_5 : ∀ w ∈ GW_5, w ∈ GW := fun w h => List.mem_append_right _ (List.mem_append_right _ (List.mem_append_right _ (List.mem_append_right _ (List.mem_append_right _ (List.mem_append_left _ h)))))
theorem gin_6 : ∀ w ∈ GW_6, w ∈ GW := fun w h => List.mem_append_right _ (List.mem_append_right _ (List.mem_append_right _ (List.mem_append_right _ (List.mem_append_right _ (List.mem_append_right _ (List.mem_append_left _ h))))))
theorem gin_7 : ∀ w ∈ GW_7, w ∈ GW := fun w h => List.mem_append_right _ (List.mem_append_right _ (List.mem_append_right _ (List.mem_append_right _ (List.mem_append_right _ (List.mem_append_right _ (List.mem_append_right _ (List.mem_append_left _ h)))))))
theorem gin_8 : ∀ w ∈ GW_8, w ∈ GW := fun w h => List.mem_append_right _ (List.mem_append_right _ (List.mem_append_right _ (List.mem_append_right _ (List.mem_append_right _ (List.mem_append_right _ (List.mem_append_right _ (List.mem_append_right _ (List.mem_append_left _ h))))))))
theorem gin_9 : ∀ w ∈ GW_9, w ∈ GW := fun w h => List.mem_append_right _ (List.mem_append_right _ (List.mem_append_right _ (List.mem_append_right _ (List.mem_append_right _ (List.mem_append_right _ (List.mem_append_right _ (List.mem_append_right _ (List.mem_append_right _ (List.mem_append_left _ h)))))))))
theorem gin_10 : ∀ w ∈ GW_10, w ∈ GW := fun w h => List.mem_append_right _ (List.mem_append_right _ (List.mem_append_right _ (List.mem_append_right _ (List.mem_append_right _ (List.mem_append_right _ (List.mem_append_right _ (List.mem_append_right _ (List.mem_append_right _ (List.mem_append_right _ (List.mem_append_left _ h))))))))))
theorem gin_11 : ∀ w ∈ GW_11, w ∈ GW := fun w h => List.mem_append_right _ (List.mem_append_right _ (List.mem_append_right _ (List.mem_append_right _ (List.mem_append_right _ (List.mem_append_right _ (List.mem_append_right _ (List.mem_append_right _ (List.mem_append_right _ (List.mem_append_right _ (List.mem_append_right _ (List.mem_append_left _ h)))))))))))
theorem gin_12 : ∀ w ∈ GW_12, w ∈ GW := fun w h => List.mem_append_right _ (List.mem_append_right _ (List.mem_append_right _ (List.mem_append_right _ (List.mem_append_right _ (List.mem_append_right _ (List.mem_append_right _ (List.mem_append_right _ (List.mem_append_right _ (List.mem_append_right _ (List.mem_append_right _ (List.mem_append_right _ (List.mem_append_left _ h))))))))))))
theorem gin_13 : ∀ w ∈ GW_13, w ∈ GW := fun w h => List.mem_append_right _ (List.mem_append_right _ (List.mem_append_right _ (List.mem_append_right _ (List.mem_append_right _ (List.mem_append_right _ (List.mem_append_right _ (List.mem_append_right _ (List.mem_append_right _ (List.mem_append_right _ (List.mem_append_right _ (List.mem_append_right _ (List.mem_append_right _ (List.mem_append_left _ h)))))))))))))
theorem gin_14 : ∀ w ∈ GW_14, w ∈ GW := fun w h => List.mem_append_right _ (List.mem_append_right _ (List.mem_append_right _ (List.mem_append_right _ (List.mem_append_right _ (List.mem_append_right _ (List.mem_append_right _ (List.mem_append_right _ (List.mem_append_right _ (List.mem_append_right _ (List.mem_append_right _ (List.mem_append_right _ (List.mem_append_right _ (List.mem_append_right _ (List.mem_append_left _ h))))))))))))))
theorem gin_15 : ∀ w ∈ GW_15, w ∈ GW := fun w h => List.mem_append_right _ (List.mem_append_right _ (List.mem_append_right _ (List.mem_append_right _ (List.mem_append_right _ (List.mem_append_right _ (List.mem_append_right _ (List.mem_append_right _ (List.mem_append_right _ (List.mem_append_right _ (List.mem_append_right _ (List.mem_append_right _ (List.mem_append_right _ (List.mem_append_right _ (List.mem_append_right _ (List.mem_append_left _ h)))))))))))))))
theorem gin_16 : ∀ w ∈ GW_16, w ∈ GW := fun w h => List.mem_append_right _ (List.mem_append_right _ (List.mem_append_right _ (List.mem_append_right _ (List.mem_append_right _ (List.mem_append_right _ (List.mem_append_right _ (List.mem_append_right _ (List.mem_append_right _ (List.mem_append_right _ (List.mem_append_right _ (List.mem_append_right _ (List.mem_append_right _ (List.mem_append_right _ (List.mem_append_right _ (List.mem_append_right _ (List.mem_append_left _ h))))))))))))))))
theorem gin_17 : ∀ w ∈ GW_17, w ∈ GW := fun w h => List.mem_append_right _ (List.mem_append_right _ (List.mem_append_right _ (List.mem_append_right _ (List.mem_append_right _ (List.mem_append_right _ (List.mem_append_right _ (List.mem_append_right _ (List.mem_append_right _ (List.mem_append_right _ (List.mem_append_right _ (List.mem_append_right _ (List.mem_append_right _ (List.mem_append_right _ (List.mem_append_right _ (List.mem_append_right _ (List.mem_append_right _ (List.mem_append_left _ h)))))))))))))))))
theorem gin_18 : ∀ w ∈ GW_18, w ∈ GW := fun w h => List.mem_append_right _ (List.mem_append_right _ (List.mem_append_right _ (List.mem_append_right _ (List.mem_append_right _ (List.mem_append_right _ (List.mem_append_right _ (List.mem_append_right _ (List.mem_append_right _ (List.mem_append_right _ (List.mem_append_right _ (List.mem_append_right _ (List.mem_append_right _ (List.mem_append_right _ (List.mem_append_right _ (List.mem_append_right _ (List.mem_append_right _ (List.mem_append_right _ (h))))))))))))))))))
theorem gw_0 : (.initialized RL : Cond) ∈ GW := gin_0 _ (List.mem_of_getElem? (i := 0) rfl)
theorem gw_1 : (.initialized RD : Cond) ∈ GW := gin_0 _ (List.mem_of_getElem? (i := 1) rfl)
theorem gw_2 : (.initialized RM : Cond) ∈ GW := gin_0 _ (List.mem_of_getElem? (i := 2) rfl)
theorem gw_3 : (.initialized "java/lang/Throwable" : Cond) ∈ GW := gin_0 _ (List.mem_of_getElem? (i := 3) rfl)
theorem gw_4 : (.initialized "java/lang/Exception" : Cond) ∈ GW := gin_0 _ (List.mem_of_getElem? (i := 4) rfl)
theorem gw_5 : (.initialized "java/lang/RuntimeException" : Cond) ∈ GW := gin_0 _ (List.mem_of_getElem? (i := 5) rfl)
theorem gw_6 : (.initialized "java/lang/IllegalArgumentException" : Cond) ∈ GW := gin_0 _ (List.mem_of_getElem? (i := 6) rfl)
theorem gw_7 : (.initialized "java/lang/IllegalStateException" : Cond) ∈ GW := gin_0 _ (List.mem_of_getElem? (i := 7) rfl)
theorem gw_8 : (.initialized RT : Cond) ∈ GW := gin_0 _ (List.mem_of_getElem? (i := 8) rfl)
theorem gw_9 : (.initialized RY : Cond) ∈ GW := gin_0 _ (List.mem_of_getElem? (i := 9) rfl)
theorem gw_10 : (.initialized RN : Cond) ∈ GW := gin_0 _ (List.mem_of_getElem? (i := 10) rfl)
theorem gw_11 : (.initialized RA : Cond) ∈ GW := gin_0 _ (List.mem_of_getElem? (i := 11) rfl)
theorem gw_12 : (.initialized RB : Cond) ∈ GW := gin_0 _ (List.mem_of_getElem? (i := 12) rfl)
theorem gw_13 : (.initialized "java/lang/Math" : Cond) ∈ GW := gin_0 _ (List.mem_of_getElem? (i := 13) rfl)
theorem gw_14 : (.initialized RS : Cond) ∈ GW := gin_0 _ (List.mem_of_getElem? (i := 14) rfl)
theorem gw_15 : (.initialized RC : Cond) ∈ GW := gin_0 _ (List.mem_of_getElem? (i := 15) rfl)
theorem gw_16 : (.initialized "java/lang/IndexOutOfBoundsException" : Cond) ∈ GW := gin_0 _ (List.mem_of_getElem? (i := 16) rfl)
theorem gw_17 : (.initialized "java/util/NoSuchElementException" : Cond) ∈ GW := gin_0 _ (List.mem_of_getElem? (i := 17) rfl)
theorem gw_18 : (.classLink RL 8 RD : Cond) ∈ GW := gin_0 _ (List.mem_of_getElem? (i := 18) rfl)
theorem gw_19 : (.instantiable RD 3 : Cond) ∈ GW := gin_0 _ (List.mem_of_getElem? (i := 19) rfl)
theorem gw_20 : (.methodLink RL 68 yD_init : Cond) ∈ GW := gin_0 _ (List.mem_of_getElem? (i := 20) rfl)
theorem gw_21 : (.instanceMethod yD_init : Cond) ∈ GW := gin_0 _ (List.mem_of_getElem? (i := 21) rfl)
theorem gw_22 : (.code yD_init cD_init 1 none : Cond) ∈ GW := gin_0 _ (List.mem_of_getElem? (i := 22) rfl)
theorem gw_23 : (.methodLink RD 1 objectInit : Cond) ∈ GW := gin_0 _ (List.mem_of_getElem? (i := 23) rfl)
theorem gw_24 : (.instanceMethod objectInit : Cond) ∈ GW := gin_0 _ (List.mem_of_getElem? (i := 24) rfl)
theorem gw_25 : (.code objectInit ⟨#[0xb1]⟩ 1 none : Cond) ∈ GW := gin_0 _ (List.mem_of_getElem? (i := 25) rfl)
theorem gw_26 : (.classLink RD 9 RN : Cond) ∈ GW := gin_0 _ (List.mem_of_getElem? (i := 26) rfl)
theorem gw_27 : (.fieldLink RD 11 "LoanDesk" "loans" "[LLoanDesk$Loan;" : Cond) ∈ GW := gin_0 _ (List.mem_of_getElem? (i := 27) rfl)
theorem gw_28 : (.fieldLink RD 15 "LoanDesk" "loanCount" "I" : Cond) ∈ GW := gin_0 _ (List.mem_of_getElem? (i := 28) rfl)
theorem gw_29 : (.fieldLink RD 19 "LoanDesk" "today" "I" : Cond) ∈ GW := gin_0 _ (List.mem_of_getElem? (i := 29) rfl)
theorem gw_30 : (.laysFinal RD "LoanDesk" "loans" "[LLoanDesk$Loan;" : Cond) ∈ GW := gin_0 _ (List.mem_of_getElem? (i := 30) rfl)
theorem gw_31 : ((Jvm.Cond.soleField "LoanDesk" "loans") : Cond) ∈ GW := gin_0 _ (List.mem_of_getElem? (i := 31) rfl)
theorem gw_32 : (.lays RD "LoanDesk" "loanCount" "I" : Cond) ∈ GW := gin_0 _ (List.mem_of_getElem? (i := 32) rfl)
theorem gw_33 : ((Jvm.Cond.soleField "LoanDesk" "loanCount") : Cond) ∈ GW := gin_0 _ (List.mem_of_getElem? (i := 33) rfl)
theorem gw_34 : (.lays RD "LoanDesk" "today" "I" : Cond) ∈ GW := gin_0 _ (List.mem_of_getElem? (i := 34) rfl)
theorem gw_35 : ((Jvm.Cond.soleField "LoanDesk" "today") : Cond) ∈ GW := gin_0 _ (List.mem_of_getElem? (i := 35) rfl)
theorem gw_36 : ((Jvm.Cond.superclass "LoanDesk" "java/lang/Object") : Cond) ∈ GW := gin_0 _ (List.mem_of_getElem? (i := 36) rfl)
theorem gw_37 : (.methodLink RL 97 yD_date : Cond) ∈ GW := gin_0 _ (List.mem_of_getElem? (i := 37) rfl)
theorem gw_38 : (.instanceMethod yD_date : Cond) ∈ GW := gin_0 _ (List.mem_of_getElem? (i := 38) rfl)
theorem gw_39 : (.selects RD yD_date yD_date : Cond) ∈ GW := gin_0 _ (List.mem_of_getElem? (i := 39) rfl)
theorem gw_40 : (.code yD_date cD_date 2 (some .int) : Cond) ∈ GW := gin_1 _ (List.mem_of_getElem? (i := 0) rfl)
theorem gw_41 : (.methodLink RD 76 yY_monthOf : Cond) ∈ GW := gin_1 _ (List.mem_of_getElem? (i := 1) rfl)
theorem gw_42 : (.static yY_monthOf : Cond) ∈ GW := gin_1 _ (List.mem_of_getElem? (i := 2) rfl)
theorem gw_43 : (.code yY_monthOf cY_monthOf 4 (some .int) : Cond) ∈ GW := gin_1 _ (List.mem_of_getElem? (i := 3) rfl)
theorem gw_44 : (.methodLink RD 82 yY_numberInMonth : Cond) ∈ GW := gin_1 _ (List.mem_of_getElem? (i := 4) rfl)
theorem gw_45 : (.static yY_numberInMonth : Cond) ∈ GW := gin_1 _ (List.mem_of_getElem? (i := 5) rfl)
theorem gw_46 : (.code yY_numberInMonth cY_numberInMonth 1 (some .int) : Cond) ∈ GW := gin_1 _ (List.mem_of_getElem? (i := 6) rfl)
theorem gw_47 : (.methodLink RY 9 yY_monthOf : Cond) ∈ GW := gin_1 _ (List.mem_of_getElem? (i := 7) rfl)
theorem gw_48 : (.methodLink RY 13 yY_firstDayOf : Cond) ∈ GW := gin_1 _ (List.mem_of_getElem? (i := 8) rfl)
theorem gw_49 : (.static yY_firstDayOf : Cond) ∈ GW := gin_1 _ (List.mem_of_getElem? (i := 9) rfl)
theorem gw_50 : (.code yY_firstDayOf cY_firstDayOf 4 (some .int) : Cond) ∈ GW := gin_1 _ (List.mem_of_getElem? (i := 10) rfl)
theorem gw_51 : (.methodLink RL 72 yL_open : Cond) ∈ GW := gin_1 _ (List.mem_of_getElem? (i := 11) rfl)
theorem gw_52 : (.static yL_open : Cond) ∈ GW := gin_1 _ (List.mem_of_getElem? (i := 12) rfl)
theorem gw_53 : (.codeWith yL_open cL_open 9 (some .int) [(0, 18, 21, 13), (0, 18, 25, 15)] : Cond) ∈ GW := gin_1 _ (List.mem_of_getElem? (i := 13) rfl)
theorem gw_54 : (.classLink RL 13 "java/lang/IllegalArgumentException" : Cond) ∈ GW := gin_1 _ (List.mem_of_getElem? (i := 14) rfl)
theorem gw_55 : (.classLink RL 15 "java/lang/IllegalStateException" : Cond) ∈ GW := gin_1 _ (List.mem_of_getElem? (i := 15) rfl)
theorem gw_56 : (.methodLink RL 7 yD_open : Cond) ∈ GW := gin_1 _ (List.mem_of_getElem? (i := 16) rfl)
theorem gw_57 : (.instanceMethod yD_open : Cond) ∈ GW := gin_1 _ (List.mem_of_getElem? (i := 17) rfl)
theorem gw_58 : (.selects RD yD_open yD_open : Cond) ∈ GW := gin_1 _ (List.mem_of_getElem? (i := 18) rfl)
theorem gw_59 : (.code yD_open cD_open 9 (some .int) : Cond) ∈ GW := gin_1 _ (List.mem_of_getElem? (i := 19) rfl)
theorem gw_60 : (.constant RD 22 (100000000) : Cond) ∈ GW := gin_1 _ (List.mem_of_getElem? (i := 20) rfl)
theorem gw_61 : (.methodLink RD 23 yD_within : Cond) ∈ GW := gin_1 _ (List.mem_of_getElem? (i := 21) rfl)
theorem gw_62 : (.static yD_within : Cond) ∈ GW := gin_1 _ (List.mem_of_getElem? (i := 22) rfl)
theorem gw_63 : (.code yD_within cD_within 3 (some .boolean) : Cond) ∈ GW := gin_1 _ (List.mem_of_getElem? (i := 23) rfl)
theorem gw_64 : (.classLink RD 27 "java/lang/IllegalArgumentException" : Cond) ∈ GW := gin_1 _ (List.mem_of_getElem? (i := 24) rfl)
theorem gw_65 : (.instantiable "java/lang/IllegalArgumentException" 6 : Cond) ∈ GW := gin_1 _ (List.mem_of_getElem? (i := 25) rfl)
theorem gw_66 : (.selects "java/lang/IllegalArgumentException" ⟨"java/lang/Throwable", "fillInStackTrace", "(I)Ljava/lang/Throwable;"⟩ ⟨"java/lang/Throwable", "fillInStackTrace", "(I)Ljava/lang/Throwable;"⟩ : Cond) ∈ GW := gin_1 _ (List.mem_of_getElem? (i := 26) rfl)
theorem gw_67 : (.selects "java/lang/IllegalArgumentException" ⟨"java/lang/Throwable", "fillInStackTrace", "()Ljava/lang/Throwable;"⟩ ⟨"java/lang/Throwable", "fillInStackTrace", "()Ljava/lang/Throwable;"⟩ : Cond) ∈ GW := gin_1 _ (List.mem_of_getElem? (i := 27) rfl)
theorem gw_68 : (.lays "java/lang/IllegalArgumentException" "java/lang/Throwable" "cause" "Ljava/lang/Throwable;" : Cond) ∈ GW := gin_1 _ (List.mem_of_getElem? (i := 28) rfl)
theorem gw_69 : (.lays "java/lang/Throwable" "java/lang/Throwable" "cause" "Ljava/lang/Throwable;" : Cond) ∈ GW := gin_1 _ (List.mem_of_getElem? (i := 29) rfl)
theorem gw_70 : (.lays "java/lang/IllegalArgumentException" "java/lang/Throwable" "stackTrace" "[Ljava/lang/StackTraceElement;" : Cond) ∈ GW := gin_1 _ (List.mem_of_getElem? (i := 30) rfl)
theorem gw_71 : (.lays "java/lang/Throwable" "java/lang/Throwable" "stackTrace" "[Ljava/lang/StackTraceElement;" : Cond) ∈ GW := gin_1 _ (List.mem_of_getElem? (i := 31) rfl)
theorem gw_72 : (.lays "java/lang/IllegalArgumentException" "java/lang/Throwable" "suppressedExceptions" "Ljava/util/List;" : Cond) ∈ GW := gin_1 _ (List.mem_of_getElem? (i := 32) rfl)
theorem gw_73 : (.lays "java/lang/Throwable" "java/lang/Throwable" "suppressedExceptions" "Ljava/util/List;" : Cond) ∈ GW := gin_1 _ (List.mem_of_getElem? (i := 33) rfl)
theorem gw_74 : (.lays "java/lang/IllegalArgumentException" "java/lang/Throwable" "detailMessage" "Ljava/lang/String;" : Cond) ∈ GW := gin_1 _ (List.mem_of_getElem? (i := 34) rfl)
theorem gw_75 : (.lays "java/lang/Throwable" "java/lang/Throwable" "detailMessage" "Ljava/lang/String;" : Cond) ∈ GW := gin_1 _ (List.mem_of_getElem? (i := 35) rfl)
theorem gw_76 : (.lays "java/lang/IllegalArgumentException" "java/lang/Throwable" "backtrace" "Ljava/lang/Object;" : Cond) ∈ GW := gin_1 _ (List.mem_of_getElem? (i := 36) rfl)
theorem gw_77 : (.lays "java/lang/Throwable" "java/lang/Throwable" "backtrace" "Ljava/lang/Object;" : Cond) ∈ GW := gin_1 _ (List.mem_of_getElem? (i := 37) rfl)
theorem gw_78 : (.fieldLink "java/lang/Throwable" 198 "java/lang/Throwable" "backtrace" "Ljava/lang/Object;" : Cond) ∈ GW := gin_1 _ (List.mem_of_getElem? (i := 38) rfl)
theorem gw_79 : ((Jvm.Cond.superclass "java/lang/Throwable" "java/lang/Object") : Cond) ∈ GW := gin_1 _ (List.mem_of_getElem? (i := 39) rfl)
theorem gw_80 : (.instanceMethod ⟨"java/lang/Throwable", "<init>", "()V"⟩ : Cond) ∈ GW := gin_2 _ (List.mem_of_getElem? (i := 0) rfl)
theorem gw_81 : ((Jvm.Cond.code ({ cls := "java/lang/Throwable", name := "<init>", desc := "()V" } : Jvm.MethodName) prog_17_method_1_code (1 : Nat) (Option.none : Option Jvm.ClassFile.FieldType)) : Cond) ∈ GW := gin_2 _ (List.mem_of_getElem? (i := 1) rfl)
theorem gw_82 : (.methodLink "java/lang/Throwable" 1 objectInit : Cond) ∈ GW := gin_2 _ (List.mem_of_getElem? (i := 2) rfl)
theorem gw_83 : (.fieldLink "java/lang/Throwable" 13 "java/lang/Throwable" "UNASSIGNED_STACK" "[Ljava/lang/StackTraceElement;" : Cond) ∈ GW := gin_2 _ (List.mem_of_getElem? (i := 3) rfl)
theorem gw_84 : (.fieldLink "java/lang/Throwable" 20 "java/lang/Throwable" "SUPPRESSED_SENTINEL" "Ljava/util/List;" : Cond) ∈ GW := gin_2 _ (List.mem_of_getElem? (i := 4) rfl)
theorem gw_85 : (.methodLink "java/lang/Throwable" 27 ⟨"java/lang/Throwable", "fillInStackTrace", "()Ljava/lang/Throwable;"⟩ : Cond) ∈ GW := gin_2 _ (List.mem_of_getElem? (i := 5) rfl)
theorem gw_86 : (.instanceMethod ⟨"java/lang/Throwable", "fillInStackTrace", "()Ljava/lang/Throwable;"⟩ : Cond) ∈ GW := gin_2 _ (List.mem_of_getElem? (i := 6) rfl)
theorem gw_87 : ((Jvm.Cond.sameMethod "java/lang/Throwable" "java/lang/Throwable" "fillInStackTrace" "()Ljava/lang/Throwable;") : Cond) ∈ GW := gin_2 _ (List.mem_of_getElem? (i := 7) rfl)
theorem gw_88 : (.selects "java/lang/IllegalStateException" ⟨"java/lang/Throwable", "fillInStackTrace", "()Ljava/lang/Throwable;"⟩ ⟨"java/lang/Throwable", "fillInStackTrace", "()Ljava/lang/Throwable;"⟩ : Cond) ∈ GW := gin_2 _ (List.mem_of_getElem? (i := 8) rfl)
theorem gw_89 : (.selects "java/lang/IndexOutOfBoundsException" ⟨"java/lang/Throwable", "fillInStackTrace", "()Ljava/lang/Throwable;"⟩ ⟨"java/lang/Throwable", "fillInStackTrace", "()Ljava/lang/Throwable;"⟩ : Cond) ∈ GW := gin_2 _ (List.mem_of_getElem? (i := 9) rfl)
theorem gw_90 : (.selects "java/util/NoSuchElementException" ⟨"java/lang/Throwable", "fillInStackTrace", "()Ljava/lang/Throwable;"⟩ ⟨"java/lang/Throwable", "fillInStackTrace", "()Ljava/lang/Throwable;"⟩ : Cond) ∈ GW := gin_2 _ (List.mem_of_getElem? (i := 10) rfl)
theorem gw_91 : ((Jvm.Cond.codeSync ({ cls := "java/lang/Throwable", name := "fillInStackTrace", desc := "()Ljava/lang/Throwable;" } : Jvm.MethodName) prog_17_method_18_code (1 : Nat) (Option.some (Jvm.ClassFile.FieldType.object "java/lang/Throwable"))) : Cond) ∈ GW := gin_2 _ (List.mem_of_getElem? (i := 11) rfl)
theorem gw_92 : (.methodLink "java/lang/Throwable" 202 ⟨"java/lang/Throwable", "fillInStackTrace", "(I)Ljava/lang/Throwable;"⟩ : Cond) ∈ GW := gin_2 _ (List.mem_of_getElem? (i := 12) rfl)
theorem gw_93 : (.instanceMethod ⟨"java/lang/Throwable", "fillInStackTrace", "(I)Ljava/lang/Throwable;"⟩ : Cond) ∈ GW := gin_2 _ (List.mem_of_getElem? (i := 13) rfl)
theorem gw_94 : (.instantiable "java/lang/Throwable" 6 : Cond) ∈ GW := gin_2 _ (List.mem_of_getElem? (i := 14) rfl)
theorem gw_95 : ((Jvm.Cond.native ({ cls := "java/lang/Throwable", name := "fillInStackTrace", desc := "(I)Ljava/lang/Throwable;" } : Jvm.MethodName)) : Cond) ∈ GW := gin_2 _ (List.mem_of_getElem? (i := 15) rfl)
theorem gw_96 : (.methodLink RD 29 ⟨"java/lang/IllegalArgumentException", "<init>", "()V"⟩ : Cond) ∈ GW := gin_2 _ (List.mem_of_getElem? (i := 16) rfl)
theorem gw_97 : (.instanceMethod ⟨"java/lang/IllegalArgumentException", "<init>", "()V"⟩ : Cond) ∈ GW := gin_2 _ (List.mem_of_getElem? (i := 17) rfl)
theorem gw_98 : ((Jvm.Cond.code ({ cls := "java/lang/IllegalArgumentException", name := "<init>", desc := "()V" } : Jvm.MethodName) prog_12_method_1_code (1 : Nat) (Option.none : Option Jvm.ClassFile.FieldType)) : Cond) ∈ GW := gin_2 _ (List.mem_of_getElem? (i := 18) rfl)
theorem gw_99 : (.methodLink "java/lang/IllegalArgumentException" 1 ⟨"java/lang/RuntimeException", "<init>", "()V"⟩ : Cond) ∈ GW := gin_2 _ (List.mem_of_getElem? (i := 19) rfl)
theorem gw_100 : (.instanceMethod ⟨"java/lang/RuntimeException", "<init>", "()V"⟩ : Cond) ∈ GW := gin_2 _ (List.mem_of_getElem? (i := 20) rfl)
theorem gw_101 : ((Jvm.Cond.code ({ cls := "java/lang/RuntimeException", name := "<init>", desc := "()V" } : Jvm.MethodName) prog_16_method_1_code (1 : Nat) (Option.none : Option Jvm.ClassFile.FieldType)) : Cond) ∈ GW := gin_2 _ (List.mem_of_getElem? (i := 21) rfl)
theorem gw_102 : (.methodLink "java/lang/RuntimeException" 1 ⟨"java/lang/Exception", "<init>", "()V"⟩ : Cond) ∈ GW := gin_2 _ (List.mem_of_getElem? (i := 22) rfl)
theorem gw_103 : (.instanceMethod ⟨"java/lang/Exception", "<init>", "()V"⟩ : Cond) ∈ GW := gin_2 _ (List.mem_of_getElem? (i := 23) rfl)
theorem gw_104 : ((Jvm.Cond.code ({ cls := "java/lang/Exception", name := "<init>", desc := "()V" } : Jvm.MethodName) prog_11_method_1_code (1 : Nat) (Option.none : Option Jvm.ClassFile.FieldType)) : Cond) ∈ GW := gin_2 _ (List.mem_of_getElem? (i := 24) rfl)
theorem gw_105 : (.methodLink "java/lang/Exception" 1 ⟨"java/lang/Throwable", "<init>", "()V"⟩ : Cond) ∈ GW := gin_2 _ (List.mem_of_getElem? (i := 25) rfl)
theorem gw_106 : (.fieldLink "java/lang/Throwable" 198 "java/lang/Throwable" "backtrace" "Ljava/lang/Object;" : Cond) ∈ GW := gin_2 _ (List.mem_of_getElem? (i := 26) rfl)
theorem gw_107 : (.fieldLink "java/lang/Throwable" 7 "java/lang/Throwable" "cause" "Ljava/lang/Throwable;" : Cond) ∈ GW := gin_2 _ (List.mem_of_getElem? (i := 27) rfl)
theorem gw_108 : (.fieldLink "java/lang/Throwable" 17 "java/lang/Throwable" "stackTrace" "[Ljava/lang/StackTraceElement;" : Cond) ∈ GW := gin_2 _ (List.mem_of_getElem? (i := 28) rfl)
theorem gw_109 : (.fieldLink "java/lang/Throwable" 24 "java/lang/Throwable" "suppressedExceptions" "Ljava/util/List;" : Cond) ∈ GW := gin_2 _ (List.mem_of_getElem? (i := 29) rfl)
theorem gw_110 : ((Jvm.Cond.soleField "java/lang/Throwable" "backtrace") : Cond) ∈ GW := gin_2 _ (List.mem_of_getElem? (i := 30) rfl)
theorem gw_111 : ((Jvm.Cond.soleField "java/lang/Throwable" "detailMessage") : Cond) ∈ GW := gin_2 _ (List.mem_of_getElem? (i := 31) rfl)
theorem gw_112 : ((Jvm.Cond.soleField "java/lang/Throwable" "cause") : Cond) ∈ GW := gin_2 _ (List.mem_of_getElem? (i := 32) rfl)
theorem gw_113 : ((Jvm.Cond.soleField "java/lang/Throwable" "stackTrace") : Cond) ∈ GW := gin_2 _ (List.mem_of_getElem? (i := 33) rfl)
theorem gw_114 : (.lays "java/lang/IllegalArgumentException" "java/lang/Throwable" "depth" "I" : Cond) ∈ GW := gin_2 _ (List.mem_of_getElem? (i := 34) rfl)
theorem gw_115 : ((Jvm.Cond.soleField "java/lang/Throwable" "depth") : Cond) ∈ GW := gin_2 _ (List.mem_of_getElem? (i := 35) rfl)
theorem gw_116 : ((Jvm.Cond.soleField "java/lang/Throwable" "suppressedExceptions") : Cond) ∈ GW := gin_2 _ (List.mem_of_getElem? (i := 36) rfl)
theorem gw_117 : ((Jvm.Cond.superclass "java/lang/IllegalArgumentException" "java/lang/RuntimeException") : Cond) ∈ GW := gin_2 _ (List.mem_of_getElem? (i := 37) rfl)
theorem gw_118 : (.classLink RD 30 "java/lang/IllegalStateException" : Cond) ∈ GW := gin_2 _ (List.mem_of_getElem? (i := 38) rfl)
theorem gw_119 : (.instantiable "java/lang/IllegalStateException" 6 : Cond) ∈ GW := gin_2 _ (List.mem_of_getElem? (i := 39) rfl)
theorem gw_120 : (.selects "java/lang/IllegalStateException" ⟨"java/lang/Throwable", "fillInStackTrace", "(I)Ljava/lang/Throwable;"⟩ ⟨"java/lang/Throwable", "fillInStackTrace", "(I)Ljava/lang/Throwable;"⟩ : Cond) ∈ GW := gin_3 _ (List.mem_of_getElem? (i := 0) rfl)
theorem gw_121 : (.lays "java/lang/IllegalStateException" "java/lang/Throwable" "cause" "Ljava/lang/Throwable;" : Cond) ∈ GW := gin_3 _ (List.mem_of_getElem? (i := 1) rfl)
theorem gw_122 : (.lays "java/lang/IllegalStateException" "java/lang/Throwable" "stackTrace" "[Ljava/lang/StackTraceElement;" : Cond) ∈ GW := gin_3 _ (List.mem_of_getElem? (i := 2) rfl)
theorem gw_123 : (.lays "java/lang/IllegalStateException" "java/lang/Throwable" "suppressedExceptions" "Ljava/util/List;" : Cond) ∈ GW := gin_3 _ (List.mem_of_getElem? (i := 3) rfl)
theorem gw_124 : (.lays "java/lang/IllegalStateException" "java/lang/Throwable" "detailMessage" "Ljava/lang/String;" : Cond) ∈ GW := gin_3 _ (List.mem_of_getElem? (i := 4) rfl)
theorem gw_125 : (.lays "java/lang/IllegalStateException" "java/lang/Throwable" "backtrace" "Ljava/lang/Object;" : Cond) ∈ GW := gin_3 _ (List.mem_of_getElem? (i := 5) rfl)
theorem gw_126 : (.methodLink RD 32 ⟨"java/lang/IllegalStateException", "<init>", "()V"⟩ : Cond) ∈ GW := gin_3 _ (List.mem_of_getElem? (i := 6) rfl)
theorem gw_127 : (.instanceMethod ⟨"java/lang/IllegalStateException", "<init>", "()V"⟩ : Cond) ∈ GW := gin_3 _ (List.mem_of_getElem? (i := 7) rfl)
theorem gw_128 : ((Jvm.Cond.code ({ cls := "java/lang/IllegalStateException", name := "<init>", desc := "()V" } : Jvm.MethodName) prog_13_method_1_code (1 : Nat) (Option.none : Option Jvm.ClassFile.FieldType)) : Cond) ∈ GW := gin_3 _ (List.mem_of_getElem? (i := 8) rfl)
theorem gw_129 : (.methodLink "java/lang/IllegalStateException" 1 ⟨"java/lang/RuntimeException", "<init>", "()V"⟩ : Cond) ∈ GW := gin_3 _ (List.mem_of_getElem? (i := 9) rfl)
theorem gw_130 : (.lays "java/lang/IllegalStateException" "java/lang/Throwable" "depth" "I" : Cond) ∈ GW := gin_3 _ (List.mem_of_getElem? (i := 10) rfl)
theorem gw_131 : ((Jvm.Cond.superclass "java/lang/IllegalStateException" "java/lang/RuntimeException") : Cond) ∈ GW := gin_3 _ (List.mem_of_getElem? (i := 11) rfl)
theorem gw_132 : (.classLink RD 33 RT : Cond) ∈ GW := gin_3 _ (List.mem_of_getElem? (i := 12) rfl)
theorem gw_133 : (.instantiable RT 7 : Cond) ∈ GW := gin_3 _ (List.mem_of_getElem? (i := 13) rfl)
theorem gw_134 : (.methodLink RD 35 yT_init : Cond) ∈ GW := gin_3 _ (List.mem_of_getElem? (i := 14) rfl)
theorem gw_135 : (.instanceMethod yT_init : Cond) ∈ GW := gin_3 _ (List.mem_of_getElem? (i := 15) rfl)
theorem gw_136 : (.code yT_init cT_init 7 none : Cond) ∈ GW := gin_3 _ (List.mem_of_getElem? (i := 16) rfl)
theorem gw_137 : (.methodLink RT 1 objectInit : Cond) ∈ GW := gin_3 _ (List.mem_of_getElem? (i := 17) rfl)
theorem gw_138 : (.methodLink RT 26 yY_monthOf : Cond) ∈ GW := gin_3 _ (List.mem_of_getElem? (i := 18) rfl)
theorem gw_139 : (.methodLink RT 35 yY_numberInMonth : Cond) ∈ GW := gin_3 _ (List.mem_of_getElem? (i := 19) rfl)
theorem gw_140 : (.fieldLink RT 7 "LoanDesk$Terms" "rate" "I" : Cond) ∈ GW := gin_3 _ (List.mem_of_getElem? (i := 20) rfl)
theorem gw_141 : (.fieldLink RN 67 "LoanDesk$Terms" "rate" "I" : Cond) ∈ GW := gin_3 _ (List.mem_of_getElem? (i := 21) rfl)
theorem gw_142 : (.fieldLink RT 13 "LoanDesk$Terms" "months" "I" : Cond) ∈ GW := gin_3 _ (List.mem_of_getElem? (i := 22) rfl)
theorem gw_143 : (.fieldLink RN 118 "LoanDesk$Terms" "months" "I" : Cond) ∈ GW := gin_3 _ (List.mem_of_getElem? (i := 23) rfl)
theorem gw_144 : (.fieldLink RT 16 "LoanDesk$Terms" "rule" "I" : Cond) ∈ GW := gin_3 _ (List.mem_of_getElem? (i := 24) rfl)
theorem gw_145 : (.fieldLink RN 55 "LoanDesk$Terms" "rule" "I" : Cond) ∈ GW := gin_3 _ (List.mem_of_getElem? (i := 25) rfl)
theorem gw_146 : (.fieldLink RT 19 "LoanDesk$Terms" "rounding" "I" : Cond) ∈ GW := gin_3 _ (List.mem_of_getElem? (i := 26) rfl)
theorem gw_147 : (.fieldLink RN 70 "LoanDesk$Terms" "rounding" "I" : Cond) ∈ GW := gin_3 _ (List.mem_of_getElem? (i := 27) rfl)
theorem gw_148 : (.fieldLink RT 22 "LoanDesk$Terms" "steady" "Z" : Cond) ∈ GW := gin_3 _ (List.mem_of_getElem? (i := 28) rfl)
theorem gw_149 : (.fieldLink RN 143 "LoanDesk$Terms" "steady" "Z" : Cond) ∈ GW := gin_3 _ (List.mem_of_getElem? (i := 29) rfl)
theorem gw_150 : (.fieldLink RT 32 "LoanDesk$Terms" "monthOpened" "I" : Cond) ∈ GW := gin_3 _ (List.mem_of_getElem? (i := 30) rfl)
theorem gw_151 : (.fieldLink RT 38 "LoanDesk$Terms" "numberInMonth" "I" : Cond) ∈ GW := gin_3 _ (List.mem_of_getElem? (i := 31) rfl)
theorem gw_152 : (.laysFinal RT "LoanDesk$Terms" "rate" "I" : Cond) ∈ GW := gin_3 _ (List.mem_of_getElem? (i := 32) rfl)
theorem gw_153 : ((Jvm.Cond.soleField "LoanDesk$Terms" "rate") : Cond) ∈ GW := gin_3 _ (List.mem_of_getElem? (i := 33) rfl)
theorem gw_154 : (.laysFinal RT "LoanDesk$Terms" "months" "I" : Cond) ∈ GW := gin_3 _ (List.mem_of_getElem? (i := 34) rfl)
theorem gw_155 : ((Jvm.Cond.soleField "LoanDesk$Terms" "months") : Cond) ∈ GW := gin_3 _ (List.mem_of_getElem? (i := 35) rfl)
theorem gw_156 : (.laysFinal RT "LoanDesk$Terms" "rule" "I" : Cond) ∈ GW := gin_3 _ (List.mem_of_getElem? (i := 36) rfl)
theorem gw_157 : ((Jvm.Cond.soleField "LoanDesk$Terms" "rule") : Cond) ∈ GW := gin_3 _ (List.mem_of_getElem? (i := 37) rfl)
theorem gw_158 : (.laysFinal RT "LoanDesk$Terms" "rounding" "I" : Cond) ∈ GW := gin_3 _ (List.mem_of_getElem? (i := 38) rfl)
theorem gw_159 : ((Jvm.Cond.soleField "LoanDesk$Terms" "rounding") : Cond) ∈ GW := gin_3 _ (List.mem_of_getElem? (i := 39) rfl)
theorem gw_160 : (.laysFinal RT "LoanDesk$Terms" "steady" "Z" : Cond) ∈ GW := gin_4 _ (List.mem_of_getElem? (i := 0) rfl)
theorem gw_161 : ((Jvm.Cond.soleField "LoanDesk$Terms" "steady") : Cond) ∈ GW := gin_4 _ (List.mem_of_getElem? (i := 1) rfl)
theorem gw_162 : (.laysFinal RT "LoanDesk$Terms" "monthOpened" "I" : Cond) ∈ GW := gin_4 _ (List.mem_of_getElem? (i := 2) rfl)
theorem gw_163 : ((Jvm.Cond.soleField "LoanDesk$Terms" "monthOpened") : Cond) ∈ GW := gin_4 _ (List.mem_of_getElem? (i := 3) rfl)
theorem gw_164 : (.laysFinal RT "LoanDesk$Terms" "numberInMonth" "I" : Cond) ∈ GW := gin_4 _ (List.mem_of_getElem? (i := 4) rfl)
theorem gw_165 : ((Jvm.Cond.soleField "LoanDesk$Terms" "numberInMonth") : Cond) ∈ GW := gin_4 _ (List.mem_of_getElem? (i := 5) rfl)
theorem gw_166 : ((Jvm.Cond.superclass "LoanDesk$Terms" "java/lang/Object") : Cond) ∈ GW := gin_4 _ (List.mem_of_getElem? (i := 6) rfl)
theorem gw_167 : (.instantiable RN 13 : Cond) ∈ GW := gin_4 _ (List.mem_of_getElem? (i := 7) rfl)
theorem gw_168 : (.methodLink RD 38 yN_init : Cond) ∈ GW := gin_4 _ (List.mem_of_getElem? (i := 8) rfl)
theorem gw_169 : (.instanceMethod yN_init : Cond) ∈ GW := gin_4 _ (List.mem_of_getElem? (i := 9) rfl)
theorem gw_170 : (.code yN_init cN_init 4 none : Cond) ∈ GW := gin_4 _ (List.mem_of_getElem? (i := 10) rfl)
theorem gw_171 : (.methodLink RN 3 objectInit : Cond) ∈ GW := gin_4 _ (List.mem_of_getElem? (i := 11) rfl)
theorem gw_172 : (.classLink RN 19 RA : Cond) ∈ GW := gin_4 _ (List.mem_of_getElem? (i := 12) rfl)
theorem gw_173 : (.instantiable RA 3 : Cond) ∈ GW := gin_4 _ (List.mem_of_getElem? (i := 13) rfl)
theorem gw_174 : (.instanceMethod yA_init : Cond) ∈ GW := gin_4 _ (List.mem_of_getElem? (i := 14) rfl)
theorem gw_175 : (.code yA_init cA_init 1 none : Cond) ∈ GW := gin_4 _ (List.mem_of_getElem? (i := 15) rfl)
theorem gw_176 : (.methodLink RA 1 objectInit : Cond) ∈ GW := gin_4 _ (List.mem_of_getElem? (i := 16) rfl)
theorem gw_177 : (.fieldLink RA 22 "LoanDesk$Account" "balance" "I" : Cond) ∈ GW := gin_4 _ (List.mem_of_getElem? (i := 17) rfl)
theorem gw_178 : (.fieldLink RN 136 "LoanDesk$Account" "balance" "I" : Cond) ∈ GW := gin_4 _ (List.mem_of_getElem? (i := 18) rfl)
theorem gw_179 : (.fieldLink RD 104 "LoanDesk$Account" "balance" "I" : Cond) ∈ GW := gin_4 _ (List.mem_of_getElem? (i := 19) rfl)
theorem gw_180 : (.fieldLink RA 19 "LoanDesk$Account" "deposit" "I" : Cond) ∈ GW := gin_4 _ (List.mem_of_getElem? (i := 20) rfl)
theorem gw_181 : (.fieldLink RN 111 "LoanDesk$Account" "deposit" "I" : Cond) ∈ GW := gin_4 _ (List.mem_of_getElem? (i := 21) rfl)
theorem gw_182 : (.fieldLink RD 107 "LoanDesk$Account" "deposit" "I" : Cond) ∈ GW := gin_4 _ (List.mem_of_getElem? (i := 22) rfl)
theorem gw_183 : (.fieldLink RA 7 "LoanDesk$Account" "yearlyCharge" "I" : Cond) ∈ GW := gin_4 _ (List.mem_of_getElem? (i := 23) rfl)
theorem gw_184 : (.lays RA "LoanDesk$Account" "balance" "I" : Cond) ∈ GW := gin_4 _ (List.mem_of_getElem? (i := 24) rfl)
theorem gw_185 : ((Jvm.Cond.soleField "LoanDesk$Account" "balance") : Cond) ∈ GW := gin_4 _ (List.mem_of_getElem? (i := 25) rfl)
theorem gw_186 : (.lays RA "LoanDesk$Account" "deposit" "I" : Cond) ∈ GW := gin_4 _ (List.mem_of_getElem? (i := 26) rfl)
theorem gw_187 : ((Jvm.Cond.soleField "LoanDesk$Account" "deposit") : Cond) ∈ GW := gin_4 _ (List.mem_of_getElem? (i := 27) rfl)
theorem gw_188 : (.lays RA "LoanDesk$Account" "yearlyCharge" "I" : Cond) ∈ GW := gin_4 _ (List.mem_of_getElem? (i := 28) rfl)
theorem gw_189 : ((Jvm.Cond.soleField "LoanDesk$Account" "yearlyCharge") : Cond) ∈ GW := gin_4 _ (List.mem_of_getElem? (i := 29) rfl)
theorem gw_190 : ((Jvm.Cond.superclass "LoanDesk$Account" "java/lang/Object") : Cond) ∈ GW := gin_4 _ (List.mem_of_getElem? (i := 30) rfl)
theorem gw_191 : (.classLink RN 26 RB : Cond) ∈ GW := gin_4 _ (List.mem_of_getElem? (i := 31) rfl)
theorem gw_192 : (.instantiable RB 2 : Cond) ∈ GW := gin_4 _ (List.mem_of_getElem? (i := 32) rfl)
theorem gw_193 : (.instanceMethod yB_init : Cond) ∈ GW := gin_4 _ (List.mem_of_getElem? (i := 33) rfl)
theorem gw_194 : (.code yB_init cB_init 1 none : Cond) ∈ GW := gin_4 _ (List.mem_of_getElem? (i := 34) rfl)
theorem gw_195 : (.methodLink RB 1 objectInit : Cond) ∈ GW := gin_4 _ (List.mem_of_getElem? (i := 35) rfl)
theorem gw_196 : (.fieldLink RB 9 "LoanDesk$BillBook" "entries" "[I" : Cond) ∈ GW := gin_4 _ (List.mem_of_getElem? (i := 36) rfl)
theorem gw_197 : (.fieldLink RD 122 "LoanDesk$BillBook" "entries" "[I" : Cond) ∈ GW := gin_4 _ (List.mem_of_getElem? (i := 37) rfl)
theorem gw_198 : (.fieldLink RB 13 "LoanDesk$BillBook" "count" "I" : Cond) ∈ GW := gin_4 _ (List.mem_of_getElem? (i := 38) rfl)
theorem gw_199 : (.fieldLink RD 114 "LoanDesk$BillBook" "count" "I" : Cond) ∈ GW := gin_4 _ (List.mem_of_getElem? (i := 39) rfl)
theorem gw_200 : (.laysFinal RB "LoanDesk$BillBook" "entries" "[I" : Cond) ∈ GW := gin_5 _ (List.mem_of_getElem? (i := 0) rfl)
theorem gw_201 : ((Jvm.Cond.soleField "LoanDesk$BillBook" "entries") : Cond) ∈ GW := gin_5 _ (List.mem_of_getElem? (i := 1) rfl)
theorem gw_202 : (.lays RB "LoanDesk$BillBook" "count" "I" : Cond) ∈ GW := gin_5 _ (List.mem_of_getElem? (i := 2) rfl)
theorem gw_203 : ((Jvm.Cond.soleField "LoanDesk$BillBook" "count") : Cond) ∈ GW := gin_5 _ (List.mem_of_getElem? (i := 3) rfl)
theorem gw_204 : ((Jvm.Cond.superclass "LoanDesk$BillBook" "java/lang/Object") : Cond) ∈ GW := gin_5 _ (List.mem_of_getElem? (i := 4) rfl)
theorem gw_205 : (.arrayClass .int : Cond) ∈ GW := gin_5 _ (List.mem_of_getElem? (i := 5) rfl)
theorem gw_206 : (.methodLink RN 43 yT_dueDay : Cond) ∈ GW := gin_5 _ (List.mem_of_getElem? (i := 6) rfl)
theorem gw_207 : (.instanceMethod yT_dueDay : Cond) ∈ GW := gin_5 _ (List.mem_of_getElem? (i := 7) rfl)
theorem gw_208 : (.selects RT yT_dueDay yT_dueDay : Cond) ∈ GW := gin_5 _ (List.mem_of_getElem? (i := 8) rfl)
theorem gw_209 : (.code yT_dueDay cT_dueDay 4 (some .int) : Cond) ∈ GW := gin_5 _ (List.mem_of_getElem? (i := 9) rfl)
theorem gw_210 : (.methodLink RT 40 yY_firstDayOf : Cond) ∈ GW := gin_5 _ (List.mem_of_getElem? (i := 10) rfl)
theorem gw_211 : (.methodLink RT 43 Lib.Math.min.name : Cond) ∈ GW := gin_5 _ (List.mem_of_getElem? (i := 11) rfl)
theorem gw_212 : (.static Lib.Math.min.name : Cond) ∈ GW := gin_5 _ (List.mem_of_getElem? (i := 12) rfl)
theorem gw_213 : (.code Lib.Math.min.name Lib.Math.min.code 2 (some .int) : Cond) ∈ GW := gin_5 _ (List.mem_of_getElem? (i := 13) rfl)
theorem gw_214 : (.fieldLink RN 9 "LoanDesk$Loan" "terms" "LLoanDesk$Terms;" : Cond) ∈ GW := gin_5 _ (List.mem_of_getElem? (i := 14) rfl)
theorem gw_215 : (.fieldLink RD 85 "LoanDesk$Loan" "terms" "LLoanDesk$Terms;" : Cond) ∈ GW := gin_5 _ (List.mem_of_getElem? (i := 15) rfl)
theorem gw_216 : (.fieldLink RN 22 "LoanDesk$Loan" "account" "LLoanDesk$Account;" : Cond) ∈ GW := gin_5 _ (List.mem_of_getElem? (i := 16) rfl)
theorem gw_217 : (.fieldLink RD 50 "LoanDesk$Loan" "account" "LLoanDesk$Account;" : Cond) ∈ GW := gin_5 _ (List.mem_of_getElem? (i := 17) rfl)
theorem gw_218 : (.fieldLink RN 29 "LoanDesk$Loan" "billBook" "LLoanDesk$BillBook;" : Cond) ∈ GW := gin_5 _ (List.mem_of_getElem? (i := 18) rfl)
theorem gw_219 : (.fieldLink RD 110 "LoanDesk$Loan" "billBook" "LLoanDesk$BillBook;" : Cond) ∈ GW := gin_5 _ (List.mem_of_getElem? (i := 19) rfl)
theorem gw_220 : (.fieldLink RN 33 "LoanDesk$Loan" "owed" "[I" : Cond) ∈ GW := gin_5 _ (List.mem_of_getElem? (i := 20) rfl)
theorem gw_221 : (.fieldLink RD 101 "LoanDesk$Loan" "owed" "[I" : Cond) ∈ GW := gin_5 _ (List.mem_of_getElem? (i := 21) rfl)
theorem gw_222 : (.fieldLink RN 37 "LoanDesk$Loan" "parts" "[I" : Cond) ∈ GW := gin_5 _ (List.mem_of_getElem? (i := 22) rfl)
theorem gw_223 : (.fieldLink RD 72 "LoanDesk$Loan" "parts" "[I" : Cond) ∈ GW := gin_5 _ (List.mem_of_getElem? (i := 23) rfl)
theorem gw_224 : (.fieldLink RD 68 "LoanDesk$Loan" "wasPaid" "Z" : Cond) ∈ GW := gin_5 _ (List.mem_of_getElem? (i := 24) rfl)
theorem gw_225 : (.fieldLink RN 139 "LoanDesk$Loan" "wasPaid" "Z" : Cond) ∈ GW := gin_5 _ (List.mem_of_getElem? (i := 25) rfl)
theorem gw_226 : (.fieldLink RN 15 "LoanDesk$Loan" "principal" "I" : Cond) ∈ GW := gin_5 _ (List.mem_of_getElem? (i := 26) rfl)
theorem gw_227 : (.fieldLink RD 92 "LoanDesk$Loan" "principal" "I" : Cond) ∈ GW := gin_5 _ (List.mem_of_getElem? (i := 27) rfl)
theorem gw_228 : (.fieldLink RN 121 "LoanDesk$Loan" "level" "I" : Cond) ∈ GW := gin_5 _ (List.mem_of_getElem? (i := 28) rfl)
theorem gw_229 : (.fieldLink RD 95 "LoanDesk$Loan" "level" "I" : Cond) ∈ GW := gin_5 _ (List.mem_of_getElem? (i := 29) rfl)
theorem gw_230 : (.fieldLink RN 64 "LoanDesk$Loan" "accrued" "I" : Cond) ∈ GW := gin_5 _ (List.mem_of_getElem? (i := 30) rfl)
theorem gw_231 : (.fieldLink RN 40 "LoanDesk$Loan" "accruedUpTo" "I" : Cond) ∈ GW := gin_5 _ (List.mem_of_getElem? (i := 31) rfl)
theorem gw_232 : (.fieldLink RN 89 "LoanDesk$Loan" "dueDaysPassed" "I" : Cond) ∈ GW := gin_5 _ (List.mem_of_getElem? (i := 32) rfl)
theorem gw_233 : (.fieldLink RN 49 "LoanDesk$Loan" "nextDueDay" "I" : Cond) ∈ GW := gin_5 _ (List.mem_of_getElem? (i := 33) rfl)
theorem gw_234 : (.fieldLink RN 52 "LoanDesk$Loan" "spanTops" "[I" : Cond) ∈ GW := gin_5 _ (List.mem_of_getElem? (i := 34) rfl)
theorem gw_235 : (.laysFinal RN "LoanDesk$Loan" "terms" "LLoanDesk$Terms;" : Cond) ∈ GW := gin_5 _ (List.mem_of_getElem? (i := 35) rfl)
theorem gw_236 : ((Jvm.Cond.soleField "LoanDesk$Loan" "terms") : Cond) ∈ GW := gin_5 _ (List.mem_of_getElem? (i := 36) rfl)
theorem gw_237 : (.laysFinal RN "LoanDesk$Loan" "account" "LLoanDesk$Account;" : Cond) ∈ GW := gin_5 _ (List.mem_of_getElem? (i := 37) rfl)
theorem gw_238 : ((Jvm.Cond.soleField "LoanDesk$Loan" "account") : Cond) ∈ GW := gin_5 _ (List.mem_of_getElem? (i := 38) rfl)
theorem gw_239 : (.laysFinal RN "LoanDesk$Loan" "billBook" "LLoanDesk$BillBook;" : Cond) ∈ GW := gin_5 _ (List.mem_of_getElem? (i := 39) rfl)
theorem gw_240 : ((Jvm.Cond.soleField "LoanDesk$Loan" "billBook") : Cond) ∈ GW := gin_6 _ (List.mem_of_getElem? (i := 0) rfl)
theorem gw_241 : (.laysFinal RN "LoanDesk$Loan" "owed" "[I" : Cond) ∈ GW := gin_6 _ (List.mem_of_getElem? (i := 1) rfl)
theorem gw_242 : ((Jvm.Cond.soleField "LoanDesk$Loan" "owed") : Cond) ∈ GW := gin_6 _ (List.mem_of_getElem? (i := 2) rfl)
theorem gw_243 : (.laysFinal RN "LoanDesk$Loan" "parts" "[I" : Cond) ∈ GW := gin_6 _ (List.mem_of_getElem? (i := 3) rfl)
theorem gw_244 : ((Jvm.Cond.soleField "LoanDesk$Loan" "parts") : Cond) ∈ GW := gin_6 _ (List.mem_of_getElem? (i := 4) rfl)
theorem gw_245 : (.lays RN "LoanDesk$Loan" "wasPaid" "Z" : Cond) ∈ GW := gin_6 _ (List.mem_of_getElem? (i := 5) rfl)
theorem gw_246 : ((Jvm.Cond.soleField "LoanDesk$Loan" "wasPaid") : Cond) ∈ GW := gin_6 _ (List.mem_of_getElem? (i := 6) rfl)
theorem gw_247 : (.lays RN "LoanDesk$Loan" "principal" "I" : Cond) ∈ GW := gin_6 _ (List.mem_of_getElem? (i := 7) rfl)
theorem gw_248 : ((Jvm.Cond.soleField "LoanDesk$Loan" "principal") : Cond) ∈ GW := gin_6 _ (List.mem_of_getElem? (i := 8) rfl)
theorem gw_249 : (.lays RN "LoanDesk$Loan" "level" "I" : Cond) ∈ GW := gin_6 _ (List.mem_of_getElem? (i := 9) rfl)
theorem gw_250 : ((Jvm.Cond.soleField "LoanDesk$Loan" "level") : Cond) ∈ GW := gin_6 _ (List.mem_of_getElem? (i := 10) rfl)
theorem gw_251 : (.lays RN "LoanDesk$Loan" "accrued" "I" : Cond) ∈ GW := gin_6 _ (List.mem_of_getElem? (i := 11) rfl)
theorem gw_252 : ((Jvm.Cond.soleField "LoanDesk$Loan" "accrued") : Cond) ∈ GW := gin_6 _ (List.mem_of_getElem? (i := 12) rfl)
theorem gw_253 : (.lays RN "LoanDesk$Loan" "accruedUpTo" "I" : Cond) ∈ GW := gin_6 _ (List.mem_of_getElem? (i := 13) rfl)
theorem gw_254 : ((Jvm.Cond.soleField "LoanDesk$Loan" "accruedUpTo") : Cond) ∈ GW := gin_6 _ (List.mem_of_getElem? (i := 14) rfl)
theorem gw_255 : (.lays RN "LoanDesk$Loan" "dueDaysPassed" "I" : Cond) ∈ GW := gin_6 _ (List.mem_of_getElem? (i := 15) rfl)
theorem gw_256 : ((Jvm.Cond.soleField "LoanDesk$Loan" "dueDaysPassed") : Cond) ∈ GW := gin_6 _ (List.mem_of_getElem? (i := 16) rfl)
theorem gw_257 : (.lays RN "LoanDesk$Loan" "nextDueDay" "I" : Cond) ∈ GW := gin_6 _ (List.mem_of_getElem? (i := 17) rfl)
theorem gw_258 : ((Jvm.Cond.soleField "LoanDesk$Loan" "nextDueDay") : Cond) ∈ GW := gin_6 _ (List.mem_of_getElem? (i := 18) rfl)
theorem gw_259 : (.laysFinal RN "LoanDesk$Loan" "spanTops" "[I" : Cond) ∈ GW := gin_6 _ (List.mem_of_getElem? (i := 19) rfl)
theorem gw_260 : ((Jvm.Cond.soleField "LoanDesk$Loan" "spanTops") : Cond) ∈ GW := gin_6 _ (List.mem_of_getElem? (i := 20) rfl)
theorem gw_261 : ((Jvm.Cond.superclass "LoanDesk$Loan" "java/lang/Object") : Cond) ∈ GW := gin_6 _ (List.mem_of_getElem? (i := 21) rfl)
theorem gw_262 : (.methodLink RD 41 yN_reckonLevel : Cond) ∈ GW := gin_6 _ (List.mem_of_getElem? (i := 22) rfl)
theorem gw_263 : (.instanceMethod yN_reckonLevel : Cond) ∈ GW := gin_6 _ (List.mem_of_getElem? (i := 23) rfl)
theorem gw_264 : (.selects RN yN_reckonLevel yN_reckonLevel : Cond) ∈ GW := gin_6 _ (List.mem_of_getElem? (i := 24) rfl)
theorem gw_265 : (.code yN_reckonLevel cN_reckonLevel 4 none : Cond) ∈ GW := gin_6 _ (List.mem_of_getElem? (i := 25) rfl)
theorem gw_266 : (.methodLink RN 149 yN_layOutSpans : Cond) ∈ GW := gin_6 _ (List.mem_of_getElem? (i := 26) rfl)
theorem gw_267 : (.instanceMethod yN_layOutSpans : Cond) ∈ GW := gin_6 _ (List.mem_of_getElem? (i := 27) rfl)
theorem gw_268 : (.code yN_layOutSpans cN_layOutSpans 6 (some .int) : Cond) ∈ GW := gin_6 _ (List.mem_of_getElem? (i := 28) rfl)
theorem gw_269 : (.methodLink RN 58 yS_top : Cond) ∈ GW := gin_6 _ (List.mem_of_getElem? (i := 29) rfl)
theorem gw_270 : (.static yS_top : Cond) ∈ GW := gin_6 _ (List.mem_of_getElem? (i := 30) rfl)
theorem gw_271 : (.code yS_top cS_top 4 (some .int) : Cond) ∈ GW := gin_6 _ (List.mem_of_getElem? (i := 31) rfl)
theorem gw_272 : (.methodLink RS 7 yY_thirties : Cond) ∈ GW := gin_6 _ (List.mem_of_getElem? (i := 32) rfl)
theorem gw_273 : (.static yY_thirties : Cond) ∈ GW := gin_6 _ (List.mem_of_getElem? (i := 33) rfl)
theorem gw_274 : (.code yY_thirties cY_thirties 3 (some .int) : Cond) ∈ GW := gin_6 _ (List.mem_of_getElem? (i := 34) rfl)
theorem gw_275 : (.methodLink RY 16 Lib.Math.min.name : Cond) ∈ GW := gin_6 _ (List.mem_of_getElem? (i := 35) rfl)
theorem gw_276 : (.methodLink RS 13 yY_inLongYears : Cond) ∈ GW := gin_6 _ (List.mem_of_getElem? (i := 36) rfl)
theorem gw_277 : (.static yY_inLongYears : Cond) ∈ GW := gin_6 _ (List.mem_of_getElem? (i := 37) rfl)
theorem gw_278 : (.code yY_inLongYears cY_inLongYears 1 (some .int) : Cond) ∈ GW := gin_6 _ (List.mem_of_getElem? (i := 38) rfl)
theorem gw_279 : (.methodLink RN 152 yN_leastLevel : Cond) ∈ GW := gin_6 _ (List.mem_of_getElem? (i := 39) rfl)
theorem gw_280 : (.instanceMethod yN_leastLevel : Cond) ∈ GW := gin_7 _ (List.mem_of_getElem? (i := 0) rfl)
theorem gw_281 : (.code yN_leastLevel cN_leastLevel 7 (some .int) : Cond) ∈ GW := gin_7 _ (List.mem_of_getElem? (i := 1) rfl)
theorem gw_282 : (.methodLink RN 73 yC_interestOn : Cond) ∈ GW := gin_7 _ (List.mem_of_getElem? (i := 2) rfl)
theorem gw_283 : (.static yC_interestOn : Cond) ∈ GW := gin_7 _ (List.mem_of_getElem? (i := 3) rfl)
theorem gw_284 : (.code yC_interestOn cC_interestOn 5 (some .int) : Cond) ∈ GW := gin_7 _ (List.mem_of_getElem? (i := 4) rfl)
theorem gw_285 : (.constantLong RC 9 (100000) : Cond) ∈ GW := gin_7 _ (List.mem_of_getElem? (i := 5) rfl)
theorem gw_286 : (.methodLink RC 11 yS_bottom : Cond) ∈ GW := gin_7 _ (List.mem_of_getElem? (i := 6) rfl)
theorem gw_287 : (.static yS_bottom : Cond) ∈ GW := gin_7 _ (List.mem_of_getElem? (i := 7) rfl)
theorem gw_288 : (.code yS_bottom cS_bottom 1 (some .int) : Cond) ∈ GW := gin_7 _ (List.mem_of_getElem? (i := 8) rfl)
theorem gw_289 : (.constant RS 16 (133590) : Cond) ∈ GW := gin_7 _ (List.mem_of_getElem? (i := 9) rfl)
theorem gw_290 : (.methodLink RC 17 yC_rounded : Cond) ∈ GW := gin_7 _ (List.mem_of_getElem? (i := 10) rfl)
theorem gw_291 : (.static yC_rounded : Cond) ∈ GW := gin_7 _ (List.mem_of_getElem? (i := 11) rfl)
theorem gw_292 : (.code yC_rounded cC_rounded 10 (some .int) : Cond) ∈ GW := gin_7 _ (List.mem_of_getElem? (i := 12) rfl)
theorem gw_293 : (.constantLong RC 21 (2) : Cond) ∈ GW := gin_7 _ (List.mem_of_getElem? (i := 13) rfl)
theorem gw_294 : (.methodLink RN 155 yN_leftInTheEnd : Cond) ∈ GW := gin_7 _ (List.mem_of_getElem? (i := 14) rfl)
theorem gw_295 : (.instanceMethod yN_leftInTheEnd : Cond) ∈ GW := gin_7 _ (List.mem_of_getElem? (i := 15) rfl)
theorem gw_296 : (.code yN_leftInTheEnd cN_leftInTheEnd 7 (some .int) : Cond) ∈ GW := gin_7 _ (List.mem_of_getElem? (i := 16) rfl)
theorem gw_297 : (.methodLink RN 130 Lib.Math.min.name : Cond) ∈ GW := gin_7 _ (List.mem_of_getElem? (i := 17) rfl)
theorem gw_298 : (.methodLink RL 82 yL_charge : Cond) ∈ GW := gin_7 _ (List.mem_of_getElem? (i := 18) rfl)
theorem gw_299 : (.static yL_charge : Cond) ∈ GW := gin_7 _ (List.mem_of_getElem? (i := 19) rfl)
theorem gw_300 : (.codeWith yL_charge cL_charge 4 (some .int) [(0, 6, 9, 21), (0, 6, 12, 13)] : Cond) ∈ GW := gin_7 _ (List.mem_of_getElem? (i := 20) rfl)
theorem gw_301 : (.classLink RL 21 "java/lang/IndexOutOfBoundsException" : Cond) ∈ GW := gin_7 _ (List.mem_of_getElem? (i := 21) rfl)
theorem gw_302 : (.methodLink RL 17 yD_charge : Cond) ∈ GW := gin_7 _ (List.mem_of_getElem? (i := 22) rfl)
theorem gw_303 : (.instanceMethod yD_charge : Cond) ∈ GW := gin_7 _ (List.mem_of_getElem? (i := 23) rfl)
theorem gw_304 : (.selects RD yD_charge yD_charge : Cond) ∈ GW := gin_7 _ (List.mem_of_getElem? (i := 24) rfl)
theorem gw_305 : (.code yD_charge cD_charge 4 none : Cond) ∈ GW := gin_7 _ (List.mem_of_getElem? (i := 25) rfl)
theorem gw_306 : (.methodLink RD 45 yD_find : Cond) ∈ GW := gin_7 _ (List.mem_of_getElem? (i := 26) rfl)
theorem gw_307 : (.instanceMethod yD_find : Cond) ∈ GW := gin_7 _ (List.mem_of_getElem? (i := 27) rfl)
theorem gw_308 : (.code yD_find cD_find 2 (some (.object "LoanDesk$Loan")) : Cond) ∈ GW := gin_7 _ (List.mem_of_getElem? (i := 28) rfl)
theorem gw_309 : (.classLink RD 137 "java/lang/IndexOutOfBoundsException" : Cond) ∈ GW := gin_7 _ (List.mem_of_getElem? (i := 29) rfl)
theorem gw_310 : (.instantiable "java/lang/IndexOutOfBoundsException" 6 : Cond) ∈ GW := gin_7 _ (List.mem_of_getElem? (i := 30) rfl)
theorem gw_311 : (.selects "java/lang/IndexOutOfBoundsException" ⟨"java/lang/Throwable", "fillInStackTrace", "(I)Ljava/lang/Throwable;"⟩ ⟨"java/lang/Throwable", "fillInStackTrace", "(I)Ljava/lang/Throwable;"⟩ : Cond) ∈ GW := gin_7 _ (List.mem_of_getElem? (i := 31) rfl)
theorem gw_312 : (.lays "java/lang/IndexOutOfBoundsException" "java/lang/Throwable" "cause" "Ljava/lang/Throwable;" : Cond) ∈ GW := gin_7 _ (List.mem_of_getElem? (i := 32) rfl)
theorem gw_313 : (.lays "java/lang/IndexOutOfBoundsException" "java/lang/Throwable" "stackTrace" "[Ljava/lang/StackTraceElement;" : Cond) ∈ GW := gin_7 _ (List.mem_of_getElem? (i := 33) rfl)
theorem gw_314 : (.lays "java/lang/IndexOutOfBoundsException" "java/lang/Throwable" "suppressedExceptions" "Ljava/util/List;" : Cond) ∈ GW := gin_7 _ (List.mem_of_getElem? (i := 34) rfl)
theorem gw_315 : (.lays "java/lang/IndexOutOfBoundsException" "java/lang/Throwable" "detailMessage" "Ljava/lang/String;" : Cond) ∈ GW := gin_7 _ (List.mem_of_getElem? (i := 35) rfl)
theorem gw_316 : (.lays "java/lang/IndexOutOfBoundsException" "java/lang/Throwable" "backtrace" "Ljava/lang/Object;" : Cond) ∈ GW := gin_7 _ (List.mem_of_getElem? (i := 36) rfl)
theorem gw_317 : (.methodLink RD 139 ⟨"java/lang/IndexOutOfBoundsException", "<init>", "()V"⟩ : Cond) ∈ GW := gin_7 _ (List.mem_of_getElem? (i := 37) rfl)
theorem gw_318 : (.instanceMethod ⟨"java/lang/IndexOutOfBoundsException", "<init>", "()V"⟩ : Cond) ∈ GW := gin_7 _ (List.mem_of_getElem? (i := 38) rfl)
theorem gw_319 : ((Jvm.Cond.code ({ cls := "java/lang/IndexOutOfBoundsException", name := "<init>", desc := "()V" } : Jvm.MethodName) prog_14_method_1_code (1 : Nat) (Option.none : Option Jvm.ClassFile.FieldType)) : Cond) ∈ GW := gin_7 _ (List.mem_of_getElem? (i := 39) rfl)
theorem gw_320 : (.methodLink "java/lang/IndexOutOfBoundsException" 1 ⟨"java/lang/RuntimeException", "<init>", "()V"⟩ : Cond) ∈ GW := gin_8 _ (List.mem_of_getElem? (i := 0) rfl)
theorem gw_321 : (.lays "java/lang/IndexOutOfBoundsException" "java/lang/Throwable" "depth" "I" : Cond) ∈ GW := gin_8 _ (List.mem_of_getElem? (i := 1) rfl)
theorem gw_322 : ((Jvm.Cond.superclass "java/lang/IndexOutOfBoundsException" "java/lang/RuntimeException") : Cond) ∈ GW := gin_8 _ (List.mem_of_getElem? (i := 2) rfl)
theorem gw_323 : (.constant RD 49 (10000000) : Cond) ∈ GW := gin_8 _ (List.mem_of_getElem? (i := 3) rfl)
theorem gw_324 : (.methodLink RD 54 yA_agreeOn : Cond) ∈ GW := gin_8 _ (List.mem_of_getElem? (i := 4) rfl)
theorem gw_325 : (.instanceMethod yA_agreeOn : Cond) ∈ GW := gin_8 _ (List.mem_of_getElem? (i := 5) rfl)
theorem gw_326 : (.selects RA yA_agreeOn yA_agreeOn : Cond) ∈ GW := gin_8 _ (List.mem_of_getElem? (i := 6) rfl)
theorem gw_327 : (.code yA_agreeOn cA_agreeOn 2 none : Cond) ∈ GW := gin_8 _ (List.mem_of_getElem? (i := 7) rfl)
theorem gw_328 : (.methodLink RA 13 yC_twelfth : Cond) ∈ GW := gin_8 _ (List.mem_of_getElem? (i := 8) rfl)
theorem gw_329 : (.static yC_twelfth : Cond) ∈ GW := gin_8 _ (List.mem_of_getElem? (i := 9) rfl)
theorem gw_330 : (.code yC_twelfth cC_twelfth 1 (some .int) : Cond) ∈ GW := gin_8 _ (List.mem_of_getElem? (i := 10) rfl)
theorem gw_331 : (.methodLink RL 86 yL_advance : Cond) ∈ GW := gin_8 _ (List.mem_of_getElem? (i := 11) rfl)
theorem gw_332 : (.static yL_advance : Cond) ∈ GW := gin_8 _ (List.mem_of_getElem? (i := 12) rfl)
theorem gw_333 : (.codeWith yL_advance cL_advance 4 (some .int) [(0, 9, 12, 13), (0, 9, 15, 15)] : Cond) ∈ GW := gin_8 _ (List.mem_of_getElem? (i := 13) rfl)
theorem gw_334 : (.methodLink RL 23 yD_advance : Cond) ∈ GW := gin_8 _ (List.mem_of_getElem? (i := 14) rfl)
theorem gw_335 : (.instanceMethod yD_advance : Cond) ∈ GW := gin_8 _ (List.mem_of_getElem? (i := 15) rfl)
theorem gw_336 : (.selects RD yD_advance yD_advance : Cond) ∈ GW := gin_8 _ (List.mem_of_getElem? (i := 16) rfl)
theorem gw_337 : (.code yD_advance cD_advance 5 (some .int) : Cond) ∈ GW := gin_8 _ (List.mem_of_getElem? (i := 17) rfl)
theorem gw_338 : (.methodLink RD 59 yN_beginDay : Cond) ∈ GW := gin_8 _ (List.mem_of_getElem? (i := 18) rfl)
theorem gw_339 : (.instanceMethod yN_beginDay : Cond) ∈ GW := gin_8 _ (List.mem_of_getElem? (i := 19) rfl)
theorem gw_340 : (.selects RN yN_beginDay yN_beginDay : Cond) ∈ GW := gin_8 _ (List.mem_of_getElem? (i := 20) rfl)
theorem gw_341 : (.code yN_beginDay cN_beginDay 2 (some .boolean) : Cond) ∈ GW := gin_8 _ (List.mem_of_getElem? (i := 21) rfl)
theorem gw_342 : (.methodLink RN 82 yB_latestIsOf : Cond) ∈ GW := gin_8 _ (List.mem_of_getElem? (i := 22) rfl)
theorem gw_343 : (.instanceMethod yB_latestIsOf : Cond) ∈ GW := gin_8 _ (List.mem_of_getElem? (i := 23) rfl)
theorem gw_344 : (.selects RB yB_latestIsOf yB_latestIsOf : Cond) ∈ GW := gin_8 _ (List.mem_of_getElem? (i := 24) rfl)
theorem gw_345 : (.code yB_latestIsOf cB_latestIsOf 2 (some .boolean) : Cond) ∈ GW := gin_8 _ (List.mem_of_getElem? (i := 25) rfl)
theorem gw_346 : (.methodLink RN 86 yN_addLateFee : Cond) ∈ GW := gin_8 _ (List.mem_of_getElem? (i := 26) rfl)
theorem gw_347 : (.instanceMethod yN_addLateFee : Cond) ∈ GW := gin_8 _ (List.mem_of_getElem? (i := 27) rfl)
theorem gw_348 : (.code yN_addLateFee cN_addLateFee 3 none : Cond) ∈ GW := gin_8 _ (List.mem_of_getElem? (i := 28) rfl)
theorem gw_349 : (.constantLong RN 102 (20) : Cond) ∈ GW := gin_8 _ (List.mem_of_getElem? (i := 29) rfl)
theorem gw_350 : (.methodLink RN 104 yC_rounded : Cond) ∈ GW := gin_8 _ (List.mem_of_getElem? (i := 30) rfl)
theorem gw_351 : (.methodLink RN 92 yA_payCharge : Cond) ∈ GW := gin_8 _ (List.mem_of_getElem? (i := 31) rfl)
theorem gw_352 : (.instanceMethod yA_payCharge : Cond) ∈ GW := gin_8 _ (List.mem_of_getElem? (i := 32) rfl)
theorem gw_353 : (.selects RA yA_payCharge yA_payCharge : Cond) ∈ GW := gin_8 _ (List.mem_of_getElem? (i := 33) rfl)
theorem gw_354 : (.code yA_payCharge cA_payCharge 1 none : Cond) ∈ GW := gin_8 _ (List.mem_of_getElem? (i := 34) rfl)
theorem gw_355 : (.methodLink RA 25 Lib.Math.max.name : Cond) ∈ GW := gin_8 _ (List.mem_of_getElem? (i := 35) rfl)
theorem gw_356 : (.static Lib.Math.max.name : Cond) ∈ GW := gin_8 _ (List.mem_of_getElem? (i := 36) rfl)
theorem gw_357 : (.code Lib.Math.max.name Lib.Math.max.code 2 (some .int) : Cond) ∈ GW := gin_8 _ (List.mem_of_getElem? (i := 37) rfl)
theorem gw_358 : (.methodLink RN 95 yN_accrue : Cond) ∈ GW := gin_8 _ (List.mem_of_getElem? (i := 38) rfl)
theorem gw_359 : (.instanceMethod yN_accrue : Cond) ∈ GW := gin_8 _ (List.mem_of_getElem? (i := 39) rfl)
theorem gw_360 : (.code yN_accrue cN_accrue 2 none : Cond) ∈ GW := gin_9 _ (List.mem_of_getElem? (i := 0) rfl)
theorem gw_361 : (.methodLink RN 79 yN_accruedBy : Cond) ∈ GW := gin_9 _ (List.mem_of_getElem? (i := 1) rfl)
theorem gw_362 : (.instanceMethod yN_accruedBy : Cond) ∈ GW := gin_9 _ (List.mem_of_getElem? (i := 2) rfl)
theorem gw_363 : (.selects RN yN_accruedBy yN_accruedBy : Cond) ∈ GW := gin_9 _ (List.mem_of_getElem? (i := 3) rfl)
theorem gw_364 : (.code yN_accruedBy cN_accruedBy 3 (some .int) : Cond) ∈ GW := gin_9 _ (List.mem_of_getElem? (i := 4) rfl)
theorem gw_365 : (.methodLink RN 99 yN_makeBill : Cond) ∈ GW := gin_9 _ (List.mem_of_getElem? (i := 5) rfl)
theorem gw_366 : (.instanceMethod yN_makeBill : Cond) ∈ GW := gin_9 _ (List.mem_of_getElem? (i := 6) rfl)
theorem gw_367 : (.code yN_makeBill cN_makeBill 5 none : Cond) ∈ GW := gin_9 _ (List.mem_of_getElem? (i := 7) rfl)
theorem gw_368 : (.methodLink RN 108 yN_partToBill : Cond) ∈ GW := gin_9 _ (List.mem_of_getElem? (i := 8) rfl)
theorem gw_369 : (.instanceMethod yN_partToBill : Cond) ∈ GW := gin_9 _ (List.mem_of_getElem? (i := 9) rfl)
theorem gw_370 : (.code yN_partToBill cN_partToBill 3 (some .int) : Cond) ∈ GW := gin_9 _ (List.mem_of_getElem? (i := 10) rfl)
theorem gw_371 : (.methodLink RN 124 Lib.Math.max.name : Cond) ∈ GW := gin_9 _ (List.mem_of_getElem? (i := 11) rfl)
theorem gw_372 : (.methodLink RN 114 yB_add : Cond) ∈ GW := gin_9 _ (List.mem_of_getElem? (i := 12) rfl)
theorem gw_373 : (.instanceMethod yB_add : Cond) ∈ GW := gin_9 _ (List.mem_of_getElem? (i := 13) rfl)
theorem gw_374 : (.selects RB yB_add yB_add : Cond) ∈ GW := gin_9 _ (List.mem_of_getElem? (i := 14) rfl)
theorem gw_375 : (.code yB_add cB_add 7 none : Cond) ∈ GW := gin_9 _ (List.mem_of_getElem? (i := 15) rfl)
theorem gw_376 : (.methodLink RL 90 yL_pay : Cond) ∈ GW := gin_9 _ (List.mem_of_getElem? (i := 16) rfl)
theorem gw_377 : (.static yL_pay : Cond) ∈ GW := gin_9 _ (List.mem_of_getElem? (i := 17) rfl)
theorem gw_378 : (.codeWith yL_pay cL_pay 5 (some .int) [(0, 10, 13, 21), (0, 10, 17, 13)] : Cond) ∈ GW := gin_9 _ (List.mem_of_getElem? (i := 18) rfl)
theorem gw_379 : (.methodLink RL 27 yD_pay : Cond) ∈ GW := gin_9 _ (List.mem_of_getElem? (i := 19) rfl)
theorem gw_380 : (.instanceMethod yD_pay : Cond) ∈ GW := gin_9 _ (List.mem_of_getElem? (i := 20) rfl)
theorem gw_381 : (.selects RD yD_pay yD_pay : Cond) ∈ GW := gin_9 _ (List.mem_of_getElem? (i := 21) rfl)
theorem gw_382 : (.code yD_pay cD_pay 4 (some .int) : Cond) ∈ GW := gin_9 _ (List.mem_of_getElem? (i := 22) rfl)
theorem gw_383 : (.constant RD 63 (200000000) : Cond) ∈ GW := gin_9 _ (List.mem_of_getElem? (i := 23) rfl)
theorem gw_384 : (.methodLink RD 64 yN_takePayment : Cond) ∈ GW := gin_9 _ (List.mem_of_getElem? (i := 24) rfl)
theorem gw_385 : (.instanceMethod yN_takePayment : Cond) ∈ GW := gin_9 _ (List.mem_of_getElem? (i := 25) rfl)
theorem gw_386 : (.selects RN yN_takePayment yN_takePayment : Cond) ∈ GW := gin_9 _ (List.mem_of_getElem? (i := 26) rfl)
theorem gw_387 : (.code yN_takePayment cN_takePayment 5 (some .int) : Cond) ∈ GW := gin_9 _ (List.mem_of_getElem? (i := 27) rfl)
theorem gw_388 : (.methodLink RN 133 yN_splitPayment : Cond) ∈ GW := gin_9 _ (List.mem_of_getElem? (i := 28) rfl)
theorem gw_389 : (.instanceMethod yN_splitPayment : Cond) ∈ GW := gin_9 _ (List.mem_of_getElem? (i := 29) rfl)
theorem gw_390 : (.code yN_splitPayment cN_splitPayment 4 none : Cond) ∈ GW := gin_9 _ (List.mem_of_getElem? (i := 30) rfl)
theorem gw_391 : (.methodLink RN 146 yN_reckonLevel : Cond) ∈ GW := gin_9 _ (List.mem_of_getElem? (i := 31) rfl)
theorem gw_392 : (.methodLink RL 94 yL_part : Cond) ∈ GW := gin_9 _ (List.mem_of_getElem? (i := 32) rfl)
theorem gw_393 : (.static yL_part : Cond) ∈ GW := gin_9 _ (List.mem_of_getElem? (i := 33) rfl)
theorem gw_394 : (.codeWith yL_part cL_part 5 (some .int) [(0, 10, 13, 21), (0, 10, 17, 13), (0, 10, 21, 15)] : Cond) ∈ GW := gin_9 _ (List.mem_of_getElem? (i := 34) rfl)
theorem gw_395 : (.methodLink RL 31 yD_part : Cond) ∈ GW := gin_9 _ (List.mem_of_getElem? (i := 35) rfl)
theorem gw_396 : (.instanceMethod yD_part : Cond) ∈ GW := gin_9 _ (List.mem_of_getElem? (i := 36) rfl)
theorem gw_397 : (.selects RD yD_part yD_part : Cond) ∈ GW := gin_9 _ (List.mem_of_getElem? (i := 37) rfl)
theorem gw_398 : (.code yD_part cD_part 4 (some .int) : Cond) ∈ GW := gin_9 _ (List.mem_of_getElem? (i := 38) rfl)
theorem gw_399 : (.methodLink RL 101 yL_due : Cond) ∈ GW := gin_9 _ (List.mem_of_getElem? (i := 39) rfl)
theorem gw_400 : (.static yL_due : Cond) ∈ GW := gin_10 _ (List.mem_of_getElem? (i := 0) rfl)
theorem gw_401 : (.codeWith yL_due cL_due 5 (some .int) [(0, 10, 13, 21), (0, 10, 17, 13)] : Cond) ∈ GW := gin_10 _ (List.mem_of_getElem? (i := 1) rfl)
theorem gw_402 : (.methodLink RL 34 yD_due : Cond) ∈ GW := gin_10 _ (List.mem_of_getElem? (i := 2) rfl)
theorem gw_403 : (.instanceMethod yD_due : Cond) ∈ GW := gin_10 _ (List.mem_of_getElem? (i := 3) rfl)
theorem gw_404 : (.selects RD yD_due yD_due : Cond) ∈ GW := gin_10 _ (List.mem_of_getElem? (i := 4) rfl)
theorem gw_405 : (.code yD_due cD_due 4 (some .int) : Cond) ∈ GW := gin_10 _ (List.mem_of_getElem? (i := 5) rfl)
theorem gw_406 : (.methodLink RD 89 yT_dueDay : Cond) ∈ GW := gin_10 _ (List.mem_of_getElem? (i := 6) rfl)
theorem gw_407 : (.methodLink RL 104 yL_principal : Cond) ∈ GW := gin_10 _ (List.mem_of_getElem? (i := 7) rfl)
theorem gw_408 : (.static yL_principal : Cond) ∈ GW := gin_10 _ (List.mem_of_getElem? (i := 8) rfl)
theorem gw_409 : (.codeWith yL_principal cL_principal 4 (some .int) [(0, 9, 12, 21)] : Cond) ∈ GW := gin_10 _ (List.mem_of_getElem? (i := 9) rfl)
theorem gw_410 : (.methodLink RL 37 yD_principal : Cond) ∈ GW := gin_10 _ (List.mem_of_getElem? (i := 10) rfl)
theorem gw_411 : (.instanceMethod yD_principal : Cond) ∈ GW := gin_10 _ (List.mem_of_getElem? (i := 11) rfl)
theorem gw_412 : (.selects RD yD_principal yD_principal : Cond) ∈ GW := gin_10 _ (List.mem_of_getElem? (i := 12) rfl)
theorem gw_413 : (.code yD_principal cD_principal 2 (some .int) : Cond) ∈ GW := gin_10 _ (List.mem_of_getElem? (i := 13) rfl)
theorem gw_414 : (.methodLink RL 107 yL_level : Cond) ∈ GW := gin_10 _ (List.mem_of_getElem? (i := 14) rfl)
theorem gw_415 : (.static yL_level : Cond) ∈ GW := gin_10 _ (List.mem_of_getElem? (i := 15) rfl)
theorem gw_416 : (.codeWith yL_level cL_level 4 (some .int) [(0, 9, 12, 21)] : Cond) ∈ GW := gin_10 _ (List.mem_of_getElem? (i := 16) rfl)
theorem gw_417 : (.methodLink RL 40 yD_level : Cond) ∈ GW := gin_10 _ (List.mem_of_getElem? (i := 17) rfl)
theorem gw_418 : (.instanceMethod yD_level : Cond) ∈ GW := gin_10 _ (List.mem_of_getElem? (i := 18) rfl)
theorem gw_419 : (.selects RD yD_level yD_level : Cond) ∈ GW := gin_10 _ (List.mem_of_getElem? (i := 19) rfl)
theorem gw_420 : (.code yD_level cD_level 2 (some .int) : Cond) ∈ GW := gin_10 _ (List.mem_of_getElem? (i := 20) rfl)
theorem gw_421 : (.methodLink RL 110 yL_accrued : Cond) ∈ GW := gin_10 _ (List.mem_of_getElem? (i := 21) rfl)
theorem gw_422 : (.static yL_accrued : Cond) ∈ GW := gin_10 _ (List.mem_of_getElem? (i := 22) rfl)
theorem gw_423 : (.codeWith yL_accrued cL_accrued 4 (some .int) [(0, 9, 12, 21)] : Cond) ∈ GW := gin_10 _ (List.mem_of_getElem? (i := 23) rfl)
theorem gw_424 : (.methodLink RL 43 yD_accrued : Cond) ∈ GW := gin_10 _ (List.mem_of_getElem? (i := 24) rfl)
theorem gw_425 : (.instanceMethod yD_accrued : Cond) ∈ GW := gin_10 _ (List.mem_of_getElem? (i := 25) rfl)
theorem gw_426 : (.selects RD yD_accrued yD_accrued : Cond) ∈ GW := gin_10 _ (List.mem_of_getElem? (i := 26) rfl)
theorem gw_427 : (.code yD_accrued cD_accrued 2 (some .int) : Cond) ∈ GW := gin_10 _ (List.mem_of_getElem? (i := 27) rfl)
theorem gw_428 : (.methodLink RD 98 yN_accruedBy : Cond) ∈ GW := gin_10 _ (List.mem_of_getElem? (i := 28) rfl)
theorem gw_429 : (.methodLink RL 113 yL_owed : Cond) ∈ GW := gin_10 _ (List.mem_of_getElem? (i := 29) rfl)
theorem gw_430 : (.static yL_owed : Cond) ∈ GW := gin_10 _ (List.mem_of_getElem? (i := 30) rfl)
theorem gw_431 : (.codeWith yL_owed cL_owed 5 (some .int) [(0, 10, 13, 21), (0, 10, 17, 13)] : Cond) ∈ GW := gin_10 _ (List.mem_of_getElem? (i := 31) rfl)
theorem gw_432 : (.methodLink RL 46 yD_owed : Cond) ∈ GW := gin_10 _ (List.mem_of_getElem? (i := 32) rfl)
theorem gw_433 : (.instanceMethod yD_owed : Cond) ∈ GW := gin_10 _ (List.mem_of_getElem? (i := 33) rfl)
theorem gw_434 : (.selects RD yD_owed yD_owed : Cond) ∈ GW := gin_10 _ (List.mem_of_getElem? (i := 34) rfl)
theorem gw_435 : (.code yD_owed cD_owed 4 (some .int) : Cond) ∈ GW := gin_10 _ (List.mem_of_getElem? (i := 35) rfl)
theorem gw_436 : (.methodLink RL 116 yL_escrow : Cond) ∈ GW := gin_10 _ (List.mem_of_getElem? (i := 36) rfl)
theorem gw_437 : (.static yL_escrow : Cond) ∈ GW := gin_10 _ (List.mem_of_getElem? (i := 37) rfl)
theorem gw_438 : (.codeWith yL_escrow cL_escrow 4 (some .int) [(0, 9, 12, 21)] : Cond) ∈ GW := gin_10 _ (List.mem_of_getElem? (i := 38) rfl)
theorem gw_439 : (.methodLink RL 49 yD_escrow : Cond) ∈ GW := gin_10 _ (List.mem_of_getElem? (i := 39) rfl)
theorem gw_440 : (.instanceMethod yD_escrow : Cond) ∈ GW := gin_11 _ (List.mem_of_getElem? (i := 0) rfl)
theorem gw_441 : (.selects RD yD_escrow yD_escrow : Cond) ∈ GW := gin_11 _ (List.mem_of_getElem? (i := 1) rfl)
theorem gw_442 : (.code yD_escrow cD_escrow 2 (some .int) : Cond) ∈ GW := gin_11 _ (List.mem_of_getElem? (i := 2) rfl)
theorem gw_443 : (.methodLink RL 119 yL_deposit : Cond) ∈ GW := gin_11 _ (List.mem_of_getElem? (i := 3) rfl)
theorem gw_444 : (.static yL_deposit : Cond) ∈ GW := gin_11 _ (List.mem_of_getElem? (i := 4) rfl)
theorem gw_445 : (.codeWith yL_deposit cL_deposit 4 (some .int) [(0, 9, 12, 21)] : Cond) ∈ GW := gin_11 _ (List.mem_of_getElem? (i := 5) rfl)
theorem gw_446 : (.methodLink RL 52 yD_deposit : Cond) ∈ GW := gin_11 _ (List.mem_of_getElem? (i := 6) rfl)
theorem gw_447 : (.instanceMethod yD_deposit : Cond) ∈ GW := gin_11 _ (List.mem_of_getElem? (i := 7) rfl)
theorem gw_448 : (.selects RD yD_deposit yD_deposit : Cond) ∈ GW := gin_11 _ (List.mem_of_getElem? (i := 8) rfl)
theorem gw_449 : (.code yD_deposit cD_deposit 2 (some .int) : Cond) ∈ GW := gin_11 _ (List.mem_of_getElem? (i := 9) rfl)
theorem gw_450 : (.methodLink RL 122 yL_bills : Cond) ∈ GW := gin_11 _ (List.mem_of_getElem? (i := 10) rfl)
theorem gw_451 : (.static yL_bills : Cond) ∈ GW := gin_11 _ (List.mem_of_getElem? (i := 11) rfl)
theorem gw_452 : (.codeWith yL_bills cL_bills 4 (some .int) [(0, 9, 12, 21)] : Cond) ∈ GW := gin_11 _ (List.mem_of_getElem? (i := 12) rfl)
theorem gw_453 : (.methodLink RL 55 yD_bills : Cond) ∈ GW := gin_11 _ (List.mem_of_getElem? (i := 13) rfl)
theorem gw_454 : (.instanceMethod yD_bills : Cond) ∈ GW := gin_11 _ (List.mem_of_getElem? (i := 14) rfl)
theorem gw_455 : (.selects RD yD_bills yD_bills : Cond) ∈ GW := gin_11 _ (List.mem_of_getElem? (i := 15) rfl)
theorem gw_456 : (.code yD_bills cD_bills 2 (some .int) : Cond) ∈ GW := gin_11 _ (List.mem_of_getElem? (i := 16) rfl)
theorem gw_457 : (.methodLink RL 125 yL_bill : Cond) ∈ GW := gin_11 _ (List.mem_of_getElem? (i := 17) rfl)
theorem gw_458 : (.static yL_bill : Cond) ∈ GW := gin_11 _ (List.mem_of_getElem? (i := 18) rfl)
theorem gw_459 : (.codeWith yL_bill cL_bill 6 (some .int) [(0, 12, 15, 21), (0, 12, 19, 13), (0, 12, 23, 62)] : Cond) ∈ GW := gin_11 _ (List.mem_of_getElem? (i := 19) rfl)
theorem gw_460 : (.classLink RL 62 "java/util/NoSuchElementException" : Cond) ∈ GW := gin_11 _ (List.mem_of_getElem? (i := 20) rfl)
theorem gw_461 : (.methodLink RL 58 yD_bill : Cond) ∈ GW := gin_11 _ (List.mem_of_getElem? (i := 21) rfl)
theorem gw_462 : (.instanceMethod yD_bill : Cond) ∈ GW := gin_11 _ (List.mem_of_getElem? (i := 22) rfl)
theorem gw_463 : (.selects RD yD_bill yD_bill : Cond) ∈ GW := gin_11 _ (List.mem_of_getElem? (i := 23) rfl)
theorem gw_464 : (.code yD_bill cD_bill 5 (some .int) : Cond) ∈ GW := gin_11 _ (List.mem_of_getElem? (i := 24) rfl)
theorem gw_465 : (.classLink RD 119 "java/util/NoSuchElementException" : Cond) ∈ GW := gin_11 _ (List.mem_of_getElem? (i := 25) rfl)
theorem gw_466 : (.instantiable "java/util/NoSuchElementException" 6 : Cond) ∈ GW := gin_11 _ (List.mem_of_getElem? (i := 26) rfl)
theorem gw_467 : (.selects "java/util/NoSuchElementException" ⟨"java/lang/Throwable", "fillInStackTrace", "(I)Ljava/lang/Throwable;"⟩ ⟨"java/lang/Throwable", "fillInStackTrace", "(I)Ljava/lang/Throwable;"⟩ : Cond) ∈ GW := gin_11 _ (List.mem_of_getElem? (i := 27) rfl)
theorem gw_468 : (.lays "java/util/NoSuchElementException" "java/lang/Throwable" "cause" "Ljava/lang/Throwable;" : Cond) ∈ GW := gin_11 _ (List.mem_of_getElem? (i := 28) rfl)
theorem gw_469 : (.lays "java/util/NoSuchElementException" "java/lang/Throwable" "stackTrace" "[Ljava/lang/StackTraceElement;" : Cond) ∈ GW := gin_11 _ (List.mem_of_getElem? (i := 29) rfl)
theorem gw_470 : (.lays "java/util/NoSuchElementException" "java/lang/Throwable" "suppressedExceptions" "Ljava/util/List;" : Cond) ∈ GW := gin_11 _ (List.mem_of_getElem? (i := 30) rfl)
theorem gw_471 : (.lays "java/util/NoSuchElementException" "java/lang/Throwable" "detailMessage" "Ljava/lang/String;" : Cond) ∈ GW := gin_11 _ (List.mem_of_getElem? (i := 31) rfl)
theorem gw_472 : (.lays "java/util/NoSuchElementException" "java/lang/Throwable" "backtrace" "Ljava/lang/Object;" : Cond) ∈ GW := gin_11 _ (List.mem_of_getElem? (i := 32) rfl)
theorem gw_473 : (.methodLink RD 121 ⟨"java/util/NoSuchElementException", "<init>", "()V"⟩ : Cond) ∈ GW := gin_11 _ (List.mem_of_getElem? (i := 33) rfl)
theorem gw_474 : (.instanceMethod ⟨"java/util/NoSuchElementException", "<init>", "()V"⟩ : Cond) ∈ GW := gin_11 _ (List.mem_of_getElem? (i := 34) rfl)
theorem gw_475 : ((Jvm.Cond.code ({ cls := "java/util/NoSuchElementException", name := "<init>", desc := "()V" } : Jvm.MethodName) prog_18_method_1_code (1 : Nat) (Option.none : Option Jvm.ClassFile.FieldType)) : Cond) ∈ GW := gin_11 _ (List.mem_of_getElem? (i := 35) rfl)
theorem gw_476 : (.methodLink "java/util/NoSuchElementException" 1 ⟨"java/lang/RuntimeException", "<init>", "()V"⟩ : Cond) ∈ GW := gin_11 _ (List.mem_of_getElem? (i := 36) rfl)
theorem gw_477 : (.lays "java/util/NoSuchElementException" "java/lang/Throwable" "depth" "I" : Cond) ∈ GW := gin_11 _ (List.mem_of_getElem? (i := 37) rfl)
theorem gw_478 : ((Jvm.Cond.superclass "java/util/NoSuchElementException" "java/lang/RuntimeException") : Cond) ∈ GW := gin_11 _ (List.mem_of_getElem? (i := 38) rfl)
theorem gw_479 : (.methodLink RL 129 yL_interest : Cond) ∈ GW := gin_11 _ (List.mem_of_getElem? (i := 39) rfl)
theorem gw_480 : (.static yL_interest : Cond) ∈ GW := gin_12 _ (List.mem_of_getElem? (i := 0) rfl)
theorem gw_481 : (.codeWith yL_interest cL_interest 9 (some .int) [(0, 18, 21, 13)] : Cond) ∈ GW := gin_12 _ (List.mem_of_getElem? (i := 1) rfl)
theorem gw_482 : (.methodLink RL 64 yD_interest : Cond) ∈ GW := gin_12 _ (List.mem_of_getElem? (i := 2) rfl)
theorem gw_483 : (.instanceMethod yD_interest : Cond) ∈ GW := gin_12 _ (List.mem_of_getElem? (i := 3) rfl)
theorem gw_484 : (.selects RD yD_interest yD_interest : Cond) ∈ GW := gin_12 _ (List.mem_of_getElem? (i := 4) rfl)
theorem gw_485 : (.code yD_interest cD_interest 7 (some .int) : Cond) ∈ GW := gin_12 _ (List.mem_of_getElem? (i := 5) rfl)
theorem gw_486 : (.methodLink RD 125 yS_top : Cond) ∈ GW := gin_12 _ (List.mem_of_getElem? (i := 6) rfl)
theorem gw_487 : (.methodLink RD 131 yC_interestOn : Cond) ∈ GW := gin_12 _ (List.mem_of_getElem? (i := 7) rfl)
theorem gw_488 : (.classLink RL 69 RM : Cond) ∈ GW := gin_12 _ (List.mem_of_getElem? (i := 8) rfl)
theorem gw_489 : (.instantiable RM 28 : Cond) ∈ GW := gin_12 _ (List.mem_of_getElem? (i := 9) rfl)
theorem gw_490 : (.methodLink RL 71 yM_init : Cond) ∈ GW := gin_12 _ (List.mem_of_getElem? (i := 10) rfl)
theorem gw_491 : (.instanceMethod yM_init : Cond) ∈ GW := gin_12 _ (List.mem_of_getElem? (i := 11) rfl)
theorem gw_492 : (.code yM_init cM_init 1 none : Cond) ∈ GW := gin_12 _ (List.mem_of_getElem? (i := 12) rfl)
theorem gw_493 : (.methodLink RM 1 objectInit : Cond) ∈ GW := gin_12 _ (List.mem_of_getElem? (i := 13) rfl)
theorem gw_494 : (.fieldLink RM 77 "LoanDeskModel" "code" "I" : Cond) ∈ GW := gin_12 _ (List.mem_of_getElem? (i := 14) rfl)
theorem gw_495 : (.fieldLink RM 106 "LoanDeskModel" "today" "I" : Cond) ∈ GW := gin_12 _ (List.mem_of_getElem? (i := 15) rfl)
theorem gw_496 : (.fieldLink RM 160 "LoanDeskModel" "loans" "I" : Cond) ∈ GW := gin_12 _ (List.mem_of_getElem? (i := 16) rfl)
theorem gw_497 : (.fieldLink RM 7 "LoanDeskModel" "opened" "[I" : Cond) ∈ GW := gin_12 _ (List.mem_of_getElem? (i := 17) rfl)
theorem gw_498 : (.fieldLink RM 13 "LoanDeskModel" "rate" "[I" : Cond) ∈ GW := gin_12 _ (List.mem_of_getElem? (i := 18) rfl)
theorem gw_499 : (.fieldLink RM 16 "LoanDeskModel" "months" "[I" : Cond) ∈ GW := gin_12 _ (List.mem_of_getElem? (i := 19) rfl)
theorem gw_500 : (.fieldLink RM 19 "LoanDeskModel" "rule" "[I" : Cond) ∈ GW := gin_12 _ (List.mem_of_getElem? (i := 20) rfl)
theorem gw_501 : (.fieldLink RM 22 "LoanDeskModel" "rounding" "[I" : Cond) ∈ GW := gin_12 _ (List.mem_of_getElem? (i := 21) rfl)
theorem gw_502 : (.fieldLink RM 25 "LoanDeskModel" "steady" "[Z" : Cond) ∈ GW := gin_12 _ (List.mem_of_getElem? (i := 22) rfl)
theorem gw_503 : (.fieldLink RM 29 "LoanDeskModel" "principal" "[I" : Cond) ∈ GW := gin_12 _ (List.mem_of_getElem? (i := 23) rfl)
theorem gw_504 : (.fieldLink RM 32 "LoanDeskModel" "level" "[I" : Cond) ∈ GW := gin_12 _ (List.mem_of_getElem? (i := 24) rfl)
theorem gw_505 : (.fieldLink RM 35 "LoanDeskModel" "accrued" "[I" : Cond) ∈ GW := gin_12 _ (List.mem_of_getElem? (i := 25) rfl)
theorem gw_506 : (.fieldLink RM 38 "LoanDeskModel" "upTo" "[I" : Cond) ∈ GW := gin_12 _ (List.mem_of_getElem? (i := 26) rfl)
theorem gw_507 : (.fieldLink RM 41 "LoanDeskModel" "escrow" "[I" : Cond) ∈ GW := gin_12 _ (List.mem_of_getElem? (i := 27) rfl)
theorem gw_508 : (.fieldLink RM 44 "LoanDeskModel" "charge" "[I" : Cond) ∈ GW := gin_12 _ (List.mem_of_getElem? (i := 28) rfl)
theorem gw_509 : (.fieldLink RM 47 "LoanDeskModel" "deposit" "[I" : Cond) ∈ GW := gin_12 _ (List.mem_of_getElem? (i := 29) rfl)
theorem gw_510 : (.fieldLink RM 50 "LoanDeskModel" "owed" "[I" : Cond) ∈ GW := gin_12 _ (List.mem_of_getElem? (i := 30) rfl)
theorem gw_511 : (.fieldLink RM 53 "LoanDeskModel" "paid" "[Z" : Cond) ∈ GW := gin_12 _ (List.mem_of_getElem? (i := 31) rfl)
theorem gw_512 : (.fieldLink RM 56 "LoanDeskModel" "parts" "[I" : Cond) ∈ GW := gin_12 _ (List.mem_of_getElem? (i := 32) rfl)
theorem gw_513 : (.fieldLink RM 59 "LoanDeskModel" "bills" "[I" : Cond) ∈ GW := gin_12 _ (List.mem_of_getElem? (i := 33) rfl)
theorem gw_514 : (.fieldLink RM 62 "LoanDeskModel" "billDay" "[I" : Cond) ∈ GW := gin_12 _ (List.mem_of_getElem? (i := 34) rfl)
theorem gw_515 : (.fieldLink RM 65 "LoanDeskModel" "billPrincipal" "[I" : Cond) ∈ GW := gin_12 _ (List.mem_of_getElem? (i := 35) rfl)
theorem gw_516 : (.fieldLink RM 68 "LoanDeskModel" "billInterest" "[I" : Cond) ∈ GW := gin_12 _ (List.mem_of_getElem? (i := 36) rfl)
theorem gw_517 : (.fieldLink RM 71 "LoanDeskModel" "billPart" "[I" : Cond) ∈ GW := gin_12 _ (List.mem_of_getElem? (i := 37) rfl)
theorem gw_518 : (.fieldLink RM 74 "LoanDeskModel" "billDeposit" "[I" : Cond) ∈ GW := gin_12 _ (List.mem_of_getElem? (i := 38) rfl)
theorem gw_519 : (.fieldLink RM 85 "LoanDeskModel" "year" "I" : Cond) ∈ GW := gin_12 _ (List.mem_of_getElem? (i := 39) rfl)
theorem gw_520 : (.fieldLink RM 88 "LoanDeskModel" "month" "I" : Cond) ∈ GW := gin_13 _ (List.mem_of_getElem? (i := 0) rfl)
theorem gw_521 : (.fieldLink RM 95 "LoanDeskModel" "number" "I" : Cond) ∈ GW := gin_13 _ (List.mem_of_getElem? (i := 1) rfl)
theorem gw_522 : (.lays RM "LoanDeskModel" "code" "I" : Cond) ∈ GW := gin_13 _ (List.mem_of_getElem? (i := 2) rfl)
theorem gw_523 : ((Jvm.Cond.soleField "LoanDeskModel" "code") : Cond) ∈ GW := gin_13 _ (List.mem_of_getElem? (i := 3) rfl)
theorem gw_524 : (.lays RM "LoanDeskModel" "today" "I" : Cond) ∈ GW := gin_13 _ (List.mem_of_getElem? (i := 4) rfl)
theorem gw_525 : ((Jvm.Cond.soleField "LoanDeskModel" "today") : Cond) ∈ GW := gin_13 _ (List.mem_of_getElem? (i := 5) rfl)
theorem gw_526 : (.lays RM "LoanDeskModel" "loans" "I" : Cond) ∈ GW := gin_13 _ (List.mem_of_getElem? (i := 6) rfl)
theorem gw_527 : ((Jvm.Cond.soleField "LoanDeskModel" "loans") : Cond) ∈ GW := gin_13 _ (List.mem_of_getElem? (i := 7) rfl)
theorem gw_528 : (.lays RM "LoanDeskModel" "opened" "[I" : Cond) ∈ GW := gin_13 _ (List.mem_of_getElem? (i := 8) rfl)
theorem gw_529 : ((Jvm.Cond.soleField "LoanDeskModel" "opened") : Cond) ∈ GW := gin_13 _ (List.mem_of_getElem? (i := 9) rfl)
theorem gw_530 : (.lays RM "LoanDeskModel" "rate" "[I" : Cond) ∈ GW := gin_13 _ (List.mem_of_getElem? (i := 10) rfl)
theorem gw_531 : ((Jvm.Cond.soleField "LoanDeskModel" "rate") : Cond) ∈ GW := gin_13 _ (List.mem_of_getElem? (i := 11) rfl)
theorem gw_532 : (.lays RM "LoanDeskModel" "months" "[I" : Cond) ∈ GW := gin_13 _ (List.mem_of_getElem? (i := 12) rfl)
theorem gw_533 : ((Jvm.Cond.soleField "LoanDeskModel" "months") : Cond) ∈ GW := gin_13 _ (List.mem_of_getElem? (i := 13) rfl)
theorem gw_534 : (.lays RM "LoanDeskModel" "rule" "[I" : Cond) ∈ GW := gin_13 _ (List.mem_of_getElem? (i := 14) rfl)
theorem gw_535 : ((Jvm.Cond.soleField "LoanDeskModel" "rule") : Cond) ∈ GW := gin_13 _ (List.mem_of_getElem? (i := 15) rfl)
theorem gw_536 : (.lays RM "LoanDeskModel" "rounding" "[I" : Cond) ∈ GW := gin_13 _ (List.mem_of_getElem? (i := 16) rfl)
theorem gw_537 : ((Jvm.Cond.soleField "LoanDeskModel" "rounding") : Cond) ∈ GW := gin_13 _ (List.mem_of_getElem? (i := 17) rfl)
theorem gw_538 : (.lays RM "LoanDeskModel" "steady" "[Z" : Cond) ∈ GW := gin_13 _ (List.mem_of_getElem? (i := 18) rfl)
theorem gw_539 : ((Jvm.Cond.soleField "LoanDeskModel" "steady") : Cond) ∈ GW := gin_13 _ (List.mem_of_getElem? (i := 19) rfl)
theorem gw_540 : (.lays RM "LoanDeskModel" "principal" "[I" : Cond) ∈ GW := gin_13 _ (List.mem_of_getElem? (i := 20) rfl)
theorem gw_541 : ((Jvm.Cond.soleField "LoanDeskModel" "principal") : Cond) ∈ GW := gin_13 _ (List.mem_of_getElem? (i := 21) rfl)
theorem gw_542 : (.lays RM "LoanDeskModel" "level" "[I" : Cond) ∈ GW := gin_13 _ (List.mem_of_getElem? (i := 22) rfl)
theorem gw_543 : ((Jvm.Cond.soleField "LoanDeskModel" "level") : Cond) ∈ GW := gin_13 _ (List.mem_of_getElem? (i := 23) rfl)
theorem gw_544 : (.lays RM "LoanDeskModel" "accrued" "[I" : Cond) ∈ GW := gin_13 _ (List.mem_of_getElem? (i := 24) rfl)
theorem gw_545 : ((Jvm.Cond.soleField "LoanDeskModel" "accrued") : Cond) ∈ GW := gin_13 _ (List.mem_of_getElem? (i := 25) rfl)
theorem gw_546 : (.lays RM "LoanDeskModel" "upTo" "[I" : Cond) ∈ GW := gin_13 _ (List.mem_of_getElem? (i := 26) rfl)
theorem gw_547 : ((Jvm.Cond.soleField "LoanDeskModel" "upTo") : Cond) ∈ GW := gin_13 _ (List.mem_of_getElem? (i := 27) rfl)
theorem gw_548 : (.lays RM "LoanDeskModel" "escrow" "[I" : Cond) ∈ GW := gin_13 _ (List.mem_of_getElem? (i := 28) rfl)
theorem gw_549 : ((Jvm.Cond.soleField "LoanDeskModel" "escrow") : Cond) ∈ GW := gin_13 _ (List.mem_of_getElem? (i := 29) rfl)
theorem gw_550 : (.lays RM "LoanDeskModel" "charge" "[I" : Cond) ∈ GW := gin_13 _ (List.mem_of_getElem? (i := 30) rfl)
theorem gw_551 : ((Jvm.Cond.soleField "LoanDeskModel" "charge") : Cond) ∈ GW := gin_13 _ (List.mem_of_getElem? (i := 31) rfl)
theorem gw_552 : (.lays RM "LoanDeskModel" "deposit" "[I" : Cond) ∈ GW := gin_13 _ (List.mem_of_getElem? (i := 32) rfl)
theorem gw_553 : ((Jvm.Cond.soleField "LoanDeskModel" "deposit") : Cond) ∈ GW := gin_13 _ (List.mem_of_getElem? (i := 33) rfl)
theorem gw_554 : (.lays RM "LoanDeskModel" "owed" "[I" : Cond) ∈ GW := gin_13 _ (List.mem_of_getElem? (i := 34) rfl)
theorem gw_555 : ((Jvm.Cond.soleField "LoanDeskModel" "owed") : Cond) ∈ GW := gin_13 _ (List.mem_of_getElem? (i := 35) rfl)
theorem gw_556 : (.lays RM "LoanDeskModel" "paid" "[Z" : Cond) ∈ GW := gin_13 _ (List.mem_of_getElem? (i := 36) rfl)
theorem gw_557 : ((Jvm.Cond.soleField "LoanDeskModel" "paid") : Cond) ∈ GW := gin_13 _ (List.mem_of_getElem? (i := 37) rfl)
theorem gw_558 : (.lays RM "LoanDeskModel" "parts" "[I" : Cond) ∈ GW := gin_13 _ (List.mem_of_getElem? (i := 38) rfl)
theorem gw_559 : ((Jvm.Cond.soleField "LoanDeskModel" "parts") : Cond) ∈ GW := gin_13 _ (List.mem_of_getElem? (i := 39) rfl)
theorem gw_560 : (.lays RM "LoanDeskModel" "bills" "[I" : Cond) ∈ GW := gin_14 _ (List.mem_of_getElem? (i := 0) rfl)
theorem gw_561 : ((Jvm.Cond.soleField "LoanDeskModel" "bills") : Cond) ∈ GW := gin_14 _ (List.mem_of_getElem? (i := 1) rfl)
theorem gw_562 : (.lays RM "LoanDeskModel" "billDay" "[I" : Cond) ∈ GW := gin_14 _ (List.mem_of_getElem? (i := 2) rfl)
theorem gw_563 : ((Jvm.Cond.soleField "LoanDeskModel" "billDay") : Cond) ∈ GW := gin_14 _ (List.mem_of_getElem? (i := 3) rfl)
theorem gw_564 : (.lays RM "LoanDeskModel" "billPrincipal" "[I" : Cond) ∈ GW := gin_14 _ (List.mem_of_getElem? (i := 4) rfl)
theorem gw_565 : ((Jvm.Cond.soleField "LoanDeskModel" "billPrincipal") : Cond) ∈ GW := gin_14 _ (List.mem_of_getElem? (i := 5) rfl)
theorem gw_566 : (.lays RM "LoanDeskModel" "billInterest" "[I" : Cond) ∈ GW := gin_14 _ (List.mem_of_getElem? (i := 6) rfl)
theorem gw_567 : ((Jvm.Cond.soleField "LoanDeskModel" "billInterest") : Cond) ∈ GW := gin_14 _ (List.mem_of_getElem? (i := 7) rfl)
theorem gw_568 : (.lays RM "LoanDeskModel" "billPart" "[I" : Cond) ∈ GW := gin_14 _ (List.mem_of_getElem? (i := 8) rfl)
theorem gw_569 : ((Jvm.Cond.soleField "LoanDeskModel" "billPart") : Cond) ∈ GW := gin_14 _ (List.mem_of_getElem? (i := 9) rfl)
theorem gw_570 : (.lays RM "LoanDeskModel" "billDeposit" "[I" : Cond) ∈ GW := gin_14 _ (List.mem_of_getElem? (i := 10) rfl)
theorem gw_571 : ((Jvm.Cond.soleField "LoanDeskModel" "billDeposit") : Cond) ∈ GW := gin_14 _ (List.mem_of_getElem? (i := 11) rfl)
theorem gw_572 : (.lays RM "LoanDeskModel" "year" "I" : Cond) ∈ GW := gin_14 _ (List.mem_of_getElem? (i := 12) rfl)
theorem gw_573 : ((Jvm.Cond.soleField "LoanDeskModel" "year") : Cond) ∈ GW := gin_14 _ (List.mem_of_getElem? (i := 13) rfl)
theorem gw_574 : (.lays RM "LoanDeskModel" "month" "I" : Cond) ∈ GW := gin_14 _ (List.mem_of_getElem? (i := 14) rfl)
theorem gw_575 : ((Jvm.Cond.soleField "LoanDeskModel" "month") : Cond) ∈ GW := gin_14 _ (List.mem_of_getElem? (i := 15) rfl)
theorem gw_576 : (.lays RM "LoanDeskModel" "number" "I" : Cond) ∈ GW := gin_14 _ (List.mem_of_getElem? (i := 16) rfl)
theorem gw_577 : ((Jvm.Cond.soleField "LoanDeskModel" "number") : Cond) ∈ GW := gin_14 _ (List.mem_of_getElem? (i := 17) rfl)
theorem gw_578 : ((Jvm.Cond.superclass "LoanDeskModel" "java/lang/Object") : Cond) ∈ GW := gin_14 _ (List.mem_of_getElem? (i := 18) rfl)
theorem gw_579 : (.arrayClass .boolean : Cond) ∈ GW := gin_14 _ (List.mem_of_getElem? (i := 19) rfl)
theorem gw_580 : (.methodLink RL 78 yM_thrown : Cond) ∈ GW := gin_14 _ (List.mem_of_getElem? (i := 20) rfl)
theorem gw_581 : (.instanceMethod yM_thrown : Cond) ∈ GW := gin_14 _ (List.mem_of_getElem? (i := 21) rfl)
theorem gw_582 : (.selects RM yM_thrown yM_thrown : Cond) ∈ GW := gin_14 _ (List.mem_of_getElem? (i := 22) rfl)
theorem gw_583 : (.code yM_thrown cM_thrown 1 (some .int) : Cond) ∈ GW := gin_14 _ (List.mem_of_getElem? (i := 23) rfl)
theorem gw_584 : (.methodLink RL 100 yM_date : Cond) ∈ GW := gin_14 _ (List.mem_of_getElem? (i := 24) rfl)
theorem gw_585 : (.instanceMethod yM_date : Cond) ∈ GW := gin_14 _ (List.mem_of_getElem? (i := 25) rfl)
theorem gw_586 : (.selects RM yM_date yM_date : Cond) ∈ GW := gin_14 _ (List.mem_of_getElem? (i := 26) rfl)
theorem gw_587 : (.code yM_date cM_date 1 (some .int) : Cond) ∈ GW := gin_14 _ (List.mem_of_getElem? (i := 27) rfl)
theorem gw_588 : (.methodLink RM 98 yM_find : Cond) ∈ GW := gin_14 _ (List.mem_of_getElem? (i := 28) rfl)
theorem gw_589 : (.instanceMethod yM_find : Cond) ∈ GW := gin_14 _ (List.mem_of_getElem? (i := 29) rfl)
theorem gw_590 : (.code yM_find cM_find 3 none : Cond) ∈ GW := gin_14 _ (List.mem_of_getElem? (i := 30) rfl)
theorem gw_591 : (.methodLink RM 81 yM_daysOf : Cond) ∈ GW := gin_14 _ (List.mem_of_getElem? (i := 31) rfl)
theorem gw_592 : (.static yM_daysOf : Cond) ∈ GW := gin_14 _ (List.mem_of_getElem? (i := 32) rfl)
theorem gw_593 : (.code yM_daysOf cM_daysOf 1 (some .int) : Cond) ∈ GW := gin_14 _ (List.mem_of_getElem? (i := 33) rfl)
theorem gw_594 : (.methodLink RM 91 yM_daysIn : Cond) ∈ GW := gin_14 _ (List.mem_of_getElem? (i := 34) rfl)
theorem gw_595 : (.static yM_daysIn : Cond) ∈ GW := gin_14 _ (List.mem_of_getElem? (i := 35) rfl)
theorem gw_596 : (.code yM_daysIn cM_daysIn 2 (some .int) : Cond) ∈ GW := gin_14 _ (List.mem_of_getElem? (i := 36) rfl)
theorem gw_597 : (.methodLink RL 132 yM_interest : Cond) ∈ GW := gin_14 _ (List.mem_of_getElem? (i := 37) rfl)
theorem gw_598 : (.instanceMethod yM_interest : Cond) ∈ GW := gin_14 _ (List.mem_of_getElem? (i := 38) rfl)
theorem gw_599 : (.selects RM yM_interest yM_interest : Cond) ∈ GW := gin_14 _ (List.mem_of_getElem? (i := 39) rfl)
theorem gw_600 : (.code yM_interest cM_interest 8 (some .int) : Cond) ∈ GW := gin_15 _ (List.mem_of_getElem? (i := 0) rfl)
theorem gw_601 : (.constant RM 133 (100000000) : Cond) ∈ GW := gin_15 _ (List.mem_of_getElem? (i := 1) rfl)
theorem gw_602 : (.methodLink RM 134 yM_within : Cond) ∈ GW := gin_15 _ (List.mem_of_getElem? (i := 2) rfl)
theorem gw_603 : (.static yM_within : Cond) ∈ GW := gin_15 _ (List.mem_of_getElem? (i := 3) rfl)
theorem gw_604 : (.code yM_within cM_within 3 (some .boolean) : Cond) ∈ GW := gin_15 _ (List.mem_of_getElem? (i := 4) rfl)
theorem gw_605 : (.methodLink RM 138 yM_interestOn : Cond) ∈ GW := gin_15 _ (List.mem_of_getElem? (i := 5) rfl)
theorem gw_606 : (.instanceMethod yM_interestOn : Cond) ∈ GW := gin_15 _ (List.mem_of_getElem? (i := 6) rfl)
theorem gw_607 : (.code yM_interestOn cM_interestOn 7 (some .int) : Cond) ∈ GW := gin_15 _ (List.mem_of_getElem? (i := 7) rfl)
theorem gw_608 : (.methodLink RM 119 yM_span : Cond) ∈ GW := gin_15 _ (List.mem_of_getElem? (i := 8) rfl)
theorem gw_609 : (.instanceMethod yM_span : Cond) ∈ GW := gin_15 _ (List.mem_of_getElem? (i := 9) rfl)
theorem gw_610 : (.code yM_span cM_span 11 (some .long) : Cond) ∈ GW := gin_15 _ (List.mem_of_getElem? (i := 10) rfl)
theorem gw_611 : (.constantLong RM 109 (365) : Cond) ∈ GW := gin_15 _ (List.mem_of_getElem? (i := 11) rfl)
theorem gw_612 : (.constantLong RM 115 (366) : Cond) ∈ GW := gin_15 _ (List.mem_of_getElem? (i := 12) rfl)
theorem gw_613 : (.constantLong RM 123 (100000) : Cond) ∈ GW := gin_15 _ (List.mem_of_getElem? (i := 13) rfl)
theorem gw_614 : (.methodLink RM 125 yM_under : Cond) ∈ GW := gin_15 _ (List.mem_of_getElem? (i := 14) rfl)
theorem gw_615 : (.static yM_under : Cond) ∈ GW := gin_15 _ (List.mem_of_getElem? (i := 15) rfl)
theorem gw_616 : (.code yM_under cM_under 1 (some .long) : Cond) ∈ GW := gin_15 _ (List.mem_of_getElem? (i := 16) rfl)
theorem gw_617 : (.constantLong RM 111 (133590) : Cond) ∈ GW := gin_15 _ (List.mem_of_getElem? (i := 17) rfl)
theorem gw_618 : (.constantLong RM 113 (360) : Cond) ∈ GW := gin_15 _ (List.mem_of_getElem? (i := 18) rfl)
theorem gw_619 : (.methodLink RM 129 yM_rounded : Cond) ∈ GW := gin_15 _ (List.mem_of_getElem? (i := 19) rfl)
theorem gw_620 : (.static yM_rounded : Cond) ∈ GW := gin_15 _ (List.mem_of_getElem? (i := 20) rfl)
theorem gw_621 : (.code yM_rounded cM_rounded 10 (some .long) : Cond) ∈ GW := gin_15 _ (List.mem_of_getElem? (i := 21) rfl)
theorem gw_622 : (.constantLong RM 117 (2) : Cond) ∈ GW := gin_15 _ (List.mem_of_getElem? (i := 22) rfl)
theorem gw_623 : (.methodLink RL 77 yM_open : Cond) ∈ GW := gin_15 _ (List.mem_of_getElem? (i := 23) rfl)
theorem gw_624 : (.instanceMethod yM_open : Cond) ∈ GW := gin_15 _ (List.mem_of_getElem? (i := 24) rfl)
theorem gw_625 : (.selects RM yM_open yM_open : Cond) ∈ GW := gin_15 _ (List.mem_of_getElem? (i := 25) rfl)
theorem gw_626 : (.code yM_open cM_open 9 (some .int) : Cond) ∈ GW := gin_15 _ (List.mem_of_getElem? (i := 26) rfl)
theorem gw_627 : (.methodLink RM 163 yM_reckon : Cond) ∈ GW := gin_15 _ (List.mem_of_getElem? (i := 27) rfl)
theorem gw_628 : (.instanceMethod yM_reckon : Cond) ∈ GW := gin_15 _ (List.mem_of_getElem? (i := 28) rfl)
theorem gw_629 : (.code yM_reckon cM_reckon 6 none : Cond) ∈ GW := gin_15 _ (List.mem_of_getElem? (i := 29) rfl)
theorem gw_630 : (.methodLink RM 152 yM_firstBehind : Cond) ∈ GW := gin_15 _ (List.mem_of_getElem? (i := 30) rfl)
theorem gw_631 : (.instanceMethod yM_firstBehind : Cond) ∈ GW := gin_15 _ (List.mem_of_getElem? (i := 31) rfl)
theorem gw_632 : (.code yM_firstBehind cM_firstBehind 3 (some .int) : Cond) ∈ GW := gin_15 _ (List.mem_of_getElem? (i := 32) rfl)
theorem gw_633 : (.methodLink RM 142 yM_monthsSince : Cond) ∈ GW := gin_15 _ (List.mem_of_getElem? (i := 33) rfl)
theorem gw_634 : (.instanceMethod yM_monthsSince : Cond) ∈ GW := gin_15 _ (List.mem_of_getElem? (i := 34) rfl)
theorem gw_635 : (.code yM_monthsSince cM_monthsSince 3 (some .int) : Cond) ∈ GW := gin_15 _ (List.mem_of_getElem? (i := 35) rfl)
theorem gw_636 : (.methodLink RM 145 yM_dueDay : Cond) ∈ GW := gin_15 _ (List.mem_of_getElem? (i := 36) rfl)
theorem gw_637 : (.instanceMethod yM_dueDay : Cond) ∈ GW := gin_15 _ (List.mem_of_getElem? (i := 37) rfl)
theorem gw_638 : (.code yM_dueDay cM_dueDay 7 (some .int) : Cond) ∈ GW := gin_15 _ (List.mem_of_getElem? (i := 38) rfl)
theorem gw_639 : (.methodLink RM 102 yM_dayOf : Cond) ∈ GW := gin_15 _ (List.mem_of_getElem? (i := 39) rfl)
theorem gw_640 : (.static yM_dayOf : Cond) ∈ GW := gin_16 _ (List.mem_of_getElem? (i := 0) rfl)
theorem gw_641 : (.code yM_dayOf cM_dayOf 5 (some .int) : Cond) ∈ GW := gin_16 _ (List.mem_of_getElem? (i := 1) rfl)
theorem gw_642 : (.constant RM 155 (134217728) : Cond) ∈ GW := gin_16 _ (List.mem_of_getElem? (i := 2) rfl)
theorem gw_643 : (.methodLink RM 156 yM_leaves : Cond) ∈ GW := gin_16 _ (List.mem_of_getElem? (i := 3) rfl)
theorem gw_644 : (.instanceMethod yM_leaves : Cond) ∈ GW := gin_16 _ (List.mem_of_getElem? (i := 4) rfl)
theorem gw_645 : (.code yM_leaves cM_leaves 10 (some .boolean) : Cond) ∈ GW := gin_16 _ (List.mem_of_getElem? (i := 5) rfl)
theorem gw_646 : (.methodLink RM 148 yM_own : Cond) ∈ GW := gin_16 _ (List.mem_of_getElem? (i := 6) rfl)
theorem gw_647 : (.instanceMethod yM_own : Cond) ∈ GW := gin_16 _ (List.mem_of_getElem? (i := 7) rfl)
theorem gw_648 : (.code yM_own cM_own 5 (some .int) : Cond) ∈ GW := gin_16 _ (List.mem_of_getElem? (i := 8) rfl)
theorem gw_649 : (.methodLink RL 85 yM_charge : Cond) ∈ GW := gin_16 _ (List.mem_of_getElem? (i := 9) rfl)
theorem gw_650 : (.instanceMethod yM_charge : Cond) ∈ GW := gin_16 _ (List.mem_of_getElem? (i := 10) rfl)
theorem gw_651 : (.selects RM yM_charge yM_charge : Cond) ∈ GW := gin_16 _ (List.mem_of_getElem? (i := 11) rfl)
theorem gw_652 : (.code yM_charge cM_charge 3 none : Cond) ∈ GW := gin_16 _ (List.mem_of_getElem? (i := 12) rfl)
theorem gw_653 : (.methodLink RM 167 yM_none : Cond) ∈ GW := gin_16 _ (List.mem_of_getElem? (i := 13) rfl)
theorem gw_654 : (.instanceMethod yM_none : Cond) ∈ GW := gin_16 _ (List.mem_of_getElem? (i := 14) rfl)
theorem gw_655 : (.code yM_none cM_none 2 (some .boolean) : Cond) ∈ GW := gin_16 _ (List.mem_of_getElem? (i := 15) rfl)
theorem gw_656 : (.constant RM 171 (10000000) : Cond) ∈ GW := gin_16 _ (List.mem_of_getElem? (i := 16) rfl)
theorem gw_657 : (.methodLink RM 172 yM_twelfth : Cond) ∈ GW := gin_16 _ (List.mem_of_getElem? (i := 17) rfl)
theorem gw_658 : (.static yM_twelfth : Cond) ∈ GW := gin_16 _ (List.mem_of_getElem? (i := 18) rfl)
theorem gw_659 : (.code yM_twelfth cM_twelfth 1 (some .int) : Cond) ∈ GW := gin_16 _ (List.mem_of_getElem? (i := 19) rfl)
theorem gw_660 : (.methodLink RL 89 yM_advance : Cond) ∈ GW := gin_16 _ (List.mem_of_getElem? (i := 20) rfl)
theorem gw_661 : (.instanceMethod yM_advance : Cond) ∈ GW := gin_16 _ (List.mem_of_getElem? (i := 21) rfl)
theorem gw_662 : (.selects RM yM_advance yM_advance : Cond) ∈ GW := gin_16 _ (List.mem_of_getElem? (i := 22) rfl)
theorem gw_663 : (.code yM_advance cM_advance 5 (some .int) : Cond) ∈ GW := gin_16 _ (List.mem_of_getElem? (i := 23) rfl)
theorem gw_664 : (.methodLink RM 190 yM_dayOfLoan : Cond) ∈ GW := gin_16 _ (List.mem_of_getElem? (i := 24) rfl)
theorem gw_665 : (.instanceMethod yM_dayOfLoan : Cond) ∈ GW := gin_16 _ (List.mem_of_getElem? (i := 25) rfl)
theorem gw_666 : (.code yM_dayOfLoan cM_dayOfLoan 5 (some .int) : Cond) ∈ GW := gin_16 _ (List.mem_of_getElem? (i := 26) rfl)
theorem gw_667 : (.methodLink RM 175 yM_billedOn : Cond) ∈ GW := gin_16 _ (List.mem_of_getElem? (i := 27) rfl)
theorem gw_668 : (.instanceMethod yM_billedOn : Cond) ∈ GW := gin_16 _ (List.mem_of_getElem? (i := 28) rfl)
theorem gw_669 : (.code yM_billedOn cM_billedOn 5 (some .boolean) : Cond) ∈ GW := gin_16 _ (List.mem_of_getElem? (i := 29) rfl)
theorem gw_670 : (.constantLong RM 179 (20) : Cond) ∈ GW := gin_16 _ (List.mem_of_getElem? (i := 30) rfl)
theorem gw_671 : (.methodLink RM 181 yM_whichDue : Cond) ∈ GW := gin_16 _ (List.mem_of_getElem? (i := 31) rfl)
theorem gw_672 : (.instanceMethod yM_whichDue : Cond) ∈ GW := gin_16 _ (List.mem_of_getElem? (i := 32) rfl)
theorem gw_673 : (.code yM_whichDue cM_whichDue 3 (some .int) : Cond) ∈ GW := gin_16 _ (List.mem_of_getElem? (i := 33) rfl)
theorem gw_674 : (.methodLink RM 184 yM_accrue : Cond) ∈ GW := gin_16 _ (List.mem_of_getElem? (i := 34) rfl)
theorem gw_675 : (.instanceMethod yM_accrue : Cond) ∈ GW := gin_16 _ (List.mem_of_getElem? (i := 35) rfl)
theorem gw_676 : (.code yM_accrue cM_accrue 2 none : Cond) ∈ GW := gin_16 _ (List.mem_of_getElem? (i := 36) rfl)
theorem gw_677 : (.methodLink RM 187 yM_makeBill : Cond) ∈ GW := gin_16 _ (List.mem_of_getElem? (i := 37) rfl)
theorem gw_678 : (.instanceMethod yM_makeBill : Cond) ∈ GW := gin_16 _ (List.mem_of_getElem? (i := 38) rfl)
theorem gw_679 : (.code yM_makeBill cM_makeBill 8 none : Cond) ∈ GW := gin_16 _ (List.mem_of_getElem? (i := 39) rfl)
theorem gw_680 : (.methodLink RL 93 yM_pay : Cond) ∈ GW := gin_17 _ (List.mem_of_getElem? (i := 0) rfl)
theorem gw_681 : (.instanceMethod yM_pay : Cond) ∈ GW := gin_17 _ (List.mem_of_getElem? (i := 1) rfl)
theorem gw_682 : (.selects RM yM_pay yM_pay : Cond) ∈ GW := gin_17 _ (List.mem_of_getElem? (i := 2) rfl)
theorem gw_683 : (.code yM_pay cM_pay 7 (some .int) : Cond) ∈ GW := gin_17 _ (List.mem_of_getElem? (i := 3) rfl)
theorem gw_684 : (.constant RM 193 (200000000) : Cond) ∈ GW := gin_17 _ (List.mem_of_getElem? (i := 4) rfl)
theorem gw_685 : (.methodLink RL 96 yM_part : Cond) ∈ GW := gin_17 _ (List.mem_of_getElem? (i := 5) rfl)
theorem gw_686 : (.instanceMethod yM_part : Cond) ∈ GW := gin_17 _ (List.mem_of_getElem? (i := 6) rfl)
theorem gw_687 : (.selects RM yM_part yM_part : Cond) ∈ GW := gin_17 _ (List.mem_of_getElem? (i := 7) rfl)
theorem gw_688 : (.code yM_part cM_part 3 (some .int) : Cond) ∈ GW := gin_17 _ (List.mem_of_getElem? (i := 8) rfl)
theorem gw_689 : (.methodLink RL 103 yM_due : Cond) ∈ GW := gin_17 _ (List.mem_of_getElem? (i := 9) rfl)
theorem gw_690 : (.instanceMethod yM_due : Cond) ∈ GW := gin_17 _ (List.mem_of_getElem? (i := 10) rfl)
theorem gw_691 : (.selects RM yM_due yM_due : Cond) ∈ GW := gin_17 _ (List.mem_of_getElem? (i := 11) rfl)
theorem gw_692 : (.code yM_due cM_due 3 (some .int) : Cond) ∈ GW := gin_17 _ (List.mem_of_getElem? (i := 12) rfl)
theorem gw_693 : (.methodLink RL 106 yM_principal : Cond) ∈ GW := gin_17 _ (List.mem_of_getElem? (i := 13) rfl)
theorem gw_694 : (.instanceMethod yM_principal : Cond) ∈ GW := gin_17 _ (List.mem_of_getElem? (i := 14) rfl)
theorem gw_695 : (.selects RM yM_principal yM_principal : Cond) ∈ GW := gin_17 _ (List.mem_of_getElem? (i := 15) rfl)
theorem gw_696 : (.code yM_principal cM_principal 3 (some .int) : Cond) ∈ GW := gin_17 _ (List.mem_of_getElem? (i := 16) rfl)
theorem gw_697 : (.methodLink RM 194 yM_at : Cond) ∈ GW := gin_17 _ (List.mem_of_getElem? (i := 17) rfl)
theorem gw_698 : (.instanceMethod yM_at : Cond) ∈ GW := gin_17 _ (List.mem_of_getElem? (i := 18) rfl)
theorem gw_699 : (.code yM_at cM_at 2 (some .int) : Cond) ∈ GW := gin_17 _ (List.mem_of_getElem? (i := 19) rfl)
theorem gw_700 : (.methodLink RM 197 yM_seen : Cond) ∈ GW := gin_17 _ (List.mem_of_getElem? (i := 20) rfl)
theorem gw_701 : (.instanceMethod yM_seen : Cond) ∈ GW := gin_17 _ (List.mem_of_getElem? (i := 21) rfl)
theorem gw_702 : (.code yM_seen cM_seen 3 (some .int) : Cond) ∈ GW := gin_17 _ (List.mem_of_getElem? (i := 22) rfl)
theorem gw_703 : (.methodLink RL 109 yM_level : Cond) ∈ GW := gin_17 _ (List.mem_of_getElem? (i := 23) rfl)
theorem gw_704 : (.instanceMethod yM_level : Cond) ∈ GW := gin_17 _ (List.mem_of_getElem? (i := 24) rfl)
theorem gw_705 : (.selects RM yM_level yM_level : Cond) ∈ GW := gin_17 _ (List.mem_of_getElem? (i := 25) rfl)
theorem gw_706 : (.code yM_level cM_level 3 (some .int) : Cond) ∈ GW := gin_17 _ (List.mem_of_getElem? (i := 26) rfl)
theorem gw_707 : (.methodLink RL 112 yM_accrued : Cond) ∈ GW := gin_17 _ (List.mem_of_getElem? (i := 27) rfl)
theorem gw_708 : (.instanceMethod yM_accrued : Cond) ∈ GW := gin_17 _ (List.mem_of_getElem? (i := 28) rfl)
theorem gw_709 : (.selects RM yM_accrued yM_accrued : Cond) ∈ GW := gin_17 _ (List.mem_of_getElem? (i := 29) rfl)
theorem gw_710 : (.code yM_accrued cM_accrued 3 (some .int) : Cond) ∈ GW := gin_17 _ (List.mem_of_getElem? (i := 30) rfl)
theorem gw_711 : (.methodLink RL 115 yM_owed : Cond) ∈ GW := gin_17 _ (List.mem_of_getElem? (i := 31) rfl)
theorem gw_712 : (.instanceMethod yM_owed : Cond) ∈ GW := gin_17 _ (List.mem_of_getElem? (i := 32) rfl)
theorem gw_713 : (.selects RM yM_owed yM_owed : Cond) ∈ GW := gin_17 _ (List.mem_of_getElem? (i := 33) rfl)
theorem gw_714 : (.code yM_owed cM_owed 3 (some .int) : Cond) ∈ GW := gin_17 _ (List.mem_of_getElem? (i := 34) rfl)
theorem gw_715 : (.methodLink RL 118 yM_escrow : Cond) ∈ GW := gin_17 _ (List.mem_of_getElem? (i := 35) rfl)
theorem gw_716 : (.instanceMethod yM_escrow : Cond) ∈ GW := gin_17 _ (List.mem_of_getElem? (i := 36) rfl)
theorem gw_717 : (.selects RM yM_escrow yM_escrow : Cond) ∈ GW := gin_17 _ (List.mem_of_getElem? (i := 37) rfl)
theorem gw_718 : (.code yM_escrow cM_escrow 3 (some .int) : Cond) ∈ GW := gin_17 _ (List.mem_of_getElem? (i := 38) rfl)
theorem gw_719 : (.methodLink RL 121 yM_deposit : Cond) ∈ GW := gin_17 _ (List.mem_of_getElem? (i := 39) rfl)
theorem gw_720 : (.instanceMethod yM_deposit : Cond) ∈ GW := gin_18 _ (List.mem_of_getElem? (i := 0) rfl)
theorem gw_721 : (.selects RM yM_deposit yM_deposit : Cond) ∈ GW := gin_18 _ (List.mem_of_getElem? (i := 1) rfl)
theorem gw_722 : (.code yM_deposit cM_deposit 3 (some .int) : Cond) ∈ GW := gin_18 _ (List.mem_of_getElem? (i := 2) rfl)
theorem gw_723 : (.methodLink RL 124 yM_bills : Cond) ∈ GW := gin_18 _ (List.mem_of_getElem? (i := 3) rfl)
theorem gw_724 : (.instanceMethod yM_bills : Cond) ∈ GW := gin_18 _ (List.mem_of_getElem? (i := 4) rfl)
theorem gw_725 : (.selects RM yM_bills yM_bills : Cond) ∈ GW := gin_18 _ (List.mem_of_getElem? (i := 5) rfl)
theorem gw_726 : (.code yM_bills cM_bills 3 (some .int) : Cond) ∈ GW := gin_18 _ (List.mem_of_getElem? (i := 6) rfl)
theorem gw_727 : (.methodLink RL 128 yM_bill : Cond) ∈ GW := gin_18 _ (List.mem_of_getElem? (i := 7) rfl)
theorem gw_728 : (.instanceMethod yM_bill : Cond) ∈ GW := gin_18 _ (List.mem_of_getElem? (i := 8) rfl)
theorem gw_729 : (.selects RM yM_bill yM_bill : Cond) ∈ GW := gin_18 _ (List.mem_of_getElem? (i := 9) rfl)
theorem gw_730 : (.code yM_bill cM_bill 5 (some .int) : Cond) ∈ GW := gin_18 _ (List.mem_of_getElem? (i := 10) rfl)
theorem gw_731 : (.arrayClass .long : Cond) ∈ GW := gin_18 _ (List.mem_of_getElem? (i := 11) rfl)
theorem gw_732 : ((Jvm.Cond.sameMethod "java/lang/Throwable" "java/lang/Throwable" "fillInStackTrace" "(I)Ljava/lang/Throwable;") : Cond) ∈ GW := gin_18 _ (List.mem_of_getElem? (i := 12) rfl)
theorem gw_733 : (.selects "java/lang/Throwable" ⟨"java/lang/Throwable", "fillInStackTrace", "(I)Ljava/lang/Throwable;"⟩ ⟨"java/lang/Throwable", "fillInStackTrace", "(I)Ljava/lang/Throwable;"⟩ : Cond) ∈ GW := gin_18 _ (List.mem_of_getElem? (i := 13) rfl)
theorem gw_734 : (.selects RN yN_layOutSpans yN_layOutSpans : Cond) ∈ GW := gin_18 _ (List.mem_of_getElem? (i := 14) rfl)
theorem gw_735 : (.selects RN yN_leastLevel yN_leastLevel : Cond) ∈ GW := gin_18 _ (List.mem_of_getElem? (i := 15) rfl)
theorem gw_736 : (.selects RN yN_leftInTheEnd yN_leftInTheEnd : Cond) ∈ GW := gin_18 _ (List.mem_of_getElem? (i := 16) rfl)
theorem gw_737 : (.selects RD yD_find yD_find : Cond) ∈ GW := gin_18 _ (List.mem_of_getElem? (i := 17) rfl)
theorem gw_738 : (.selects RN yN_addLateFee yN_addLateFee : Cond) ∈ GW := gin_18 _ (List.mem_of_getElem? (i := 18) rfl)
theorem gw_739 : (.selects RN yN_accrue yN_accrue : Cond) ∈ GW := gin_18 _ (List.mem_of_getElem? (i := 19) rfl)
theorem gw_740 : (.selects RN yN_makeBill yN_makeBill : Cond) ∈ GW := gin_18 _ (List.mem_of_getElem? (i := 20) rfl)
theorem gw_741 : (.selects RN yN_partToBill yN_partToBill : Cond) ∈ GW := gin_18 _ (List.mem_of_getElem? (i := 21) rfl)
theorem gw_742 : (.selects RN yN_splitPayment yN_splitPayment : Cond) ∈ GW := gin_18 _ (List.mem_of_getElem? (i := 22) rfl)
theorem gw_743 : (.selects RM yM_find yM_find : Cond) ∈ GW := gin_18 _ (List.mem_of_getElem? (i := 23) rfl)
theorem gw_744 : (.selects RM yM_interestOn yM_interestOn : Cond) ∈ GW := gin_18 _ (List.mem_of_getElem? (i := 24) rfl)
theorem gw_745 : (.selects RM yM_span yM_span : Cond) ∈ GW := gin_18 _ (List.mem_of_getElem? (i := 25) rfl)
theorem gw_746 : (.selects RM yM_reckon yM_reckon : Cond) ∈ GW := gin_18 _ (List.mem_of_getElem? (i := 26) rfl)
theorem gw_747 : (.selects RM yM_firstBehind yM_firstBehind : Cond) ∈ GW := gin_18 _ (List.mem_of_getElem? (i := 27) rfl)
theorem gw_748 : (.selects RM yM_monthsSince yM_monthsSince : Cond) ∈ GW := gin_18 _ (List.mem_of_getElem? (i := 28) rfl)
theorem gw_749 : (.selects RM yM_dueDay yM_dueDay : Cond) ∈ GW := gin_18 _ (List.mem_of_getElem? (i := 29) rfl)
theorem gw_750 : (.selects RM yM_leaves yM_leaves : Cond) ∈ GW := gin_18 _ (List.mem_of_getElem? (i := 30) rfl)
theorem gw_751 : (.selects RM yM_own yM_own : Cond) ∈ GW := gin_18 _ (List.mem_of_getElem? (i := 31) rfl)
theorem gw_752 : (.selects RM yM_none yM_none : Cond) ∈ GW := gin_18 _ (List.mem_of_getElem? (i := 32) rfl)
theorem gw_753 : (.selects RM yM_dayOfLoan yM_dayOfLoan : Cond) ∈ GW := gin_18 _ (List.mem_of_getElem? (i := 33) rfl)
theorem gw_754 : (.selects RM yM_billedOn yM_billedOn : Cond) ∈ GW := gin_18 _ (List.mem_of_getElem? (i := 34) rfl)
theorem gw_755 : (.selects RM yM_whichDue yM_whichDue : Cond) ∈ GW := gin_18 _ (List.mem_of_getElem? (i := 35) rfl)
theorem gw_756 : (.selects RM yM_accrue yM_accrue : Cond) ∈ GW := gin_18 _ (List.mem_of_getElem? (i := 36) rfl)
theorem gw_757 : (.selects RM yM_makeBill yM_makeBill : Cond) ∈ GW := gin_18 _ (List.mem_of_getElem? (i := 37) rfl)
theorem gw_758 : (.selects RM yM_at yM_at : Cond) ∈ GW := gin_18 _ (List.mem_of_getElem? (i := 38) rfl)
theorem gw_759 : (.selects RM yM_seen yM_seen : Cond) ∈ GW := gin_18 _ (List.mem_of_getElem? (i := 39) rfl)
end
section
/-! they are among the tables' -/
set_option maxRecDepth 20000 in
theorem gt_0 : (.initialized RL : Cond) ∈ lw_tbl := List.mem_append_right _ (List.mem_of_getElem? (i := 0) rfl)
set_option maxRecDepth 20000 in
theorem gt_1 : (.initialized RD : Cond) ∈ lw_tbl := List.mem_append_right _ (List.mem_of_getElem? (i := 1) rfl)
set_option maxRecDepth 20000 in
theorem gt_2 : (.initialized RM : Cond) ∈ lw_tbl := List.mem_append_right _ (List.mem_of_getElem? (i := 2) rfl)
set_option maxRecDepth 20000 in
theorem gt_3 : (.initialized "java/lang/Throwable" : Cond) ∈ lw_tbl := List.mem_append_right _ (List.mem_of_getElem? (i := 3) rfl)
set_option maxRecDepth 20000 in
theorem gt_4 : (.initialized "java/lang/Exception" : Cond) ∈ lw_tbl := List.mem_append_right _ (List.mem_of_getElem? (i := 4) rfl)
set_option maxRecDepth 20000 in
theorem gt_5 : (.initialized "java/lang/RuntimeException" : Cond) ∈ lw_tbl := List.mem_append_right _ (List.mem_of_getElem? (i := 5) rfl)
set_option maxRecDepth 20000 in
theorem gt_6 : (.initialized "java/lang/IllegalArgumentException" : Cond) ∈ lw_tbl := List.mem_append_right _ (List.mem_of_getElem? (i := 6) rfl)
set_option maxRecDepth 20000 in
theorem gt_7 : (.initialized "java/lang/IllegalStateException" : Cond) ∈ lw_tbl := List.mem_append_right _ (List.mem_of_getElem? (i := 7) rfl)
set_option maxRecDepth 20000 in
theorem gt_8 : (.initialized RT : Cond) ∈ lw_tbl := List.mem_append_right _ (List.mem_of_getElem? (i := 8) rfl)
set_option maxRecDepth 20000 in
theorem gt_9 : (.initialized RY : Cond) ∈ lw_tbl := List.mem_append_right _ (List.mem_of_getElem? (i := 9) rfl)
set_option maxRecDepth 20000 in
theorem gt_10 : (.initialized RN : Cond) ∈ lw_tbl := List.mem_append_right _ (List.mem_of_getElem? (i := 10) rfl)
set_option maxRecDepth 20000 in
theorem gt_11 : (.initialized RA : Cond) ∈ lw_tbl := List.mem_append_right _ (List.mem_of_getElem? (i := 11) rfl)
set_option maxRecDepth 20000 in
theorem gt_12 : (.initialized RB : Cond) ∈ lw_tbl := List.mem_append_right _ (List.mem_of_getElem? (i := 12) rfl)
set_option maxRecDepth 20000 in
theorem gt_13 : (.initialized "java/lang/Math" : Cond) ∈ lw_tbl := List.mem_append_right _ (List.mem_of_getElem? (i := 13) rfl)
set_option maxRecDepth 20000 in
theorem gt_14 : (.initialized RS : Cond) ∈ lw_tbl := List.mem_append_right _ (List.mem_of_getElem? (i := 14) rfl)
set_option maxRecDepth 20000 in
theorem gt_15 : (.initialized RC : Cond) ∈ lw_tbl := List.mem_append_right _ (List.mem_of_getElem? (i := 15) rfl)
set_option maxRecDepth 20000 in
theorem gt_16 : (.initialized "java/lang/IndexOutOfBoundsException" : Cond) ∈ lw_tbl := List.mem_append_right _ (List.mem_of_getElem? (i := 16) rfl)
set_option maxRecDepth 20000 in
theorem gt_17 : (.initialized "java/util/NoSuchElementException" : Cond) ∈ lw_tbl := List.mem_append_right _ (List.mem_of_getElem? (i := 17) rfl)
set_option maxRecDepth 20000 in
theorem gt_18 : (.classLink RL 8 RD : Cond) ∈ lw_tbl := List.mem_append_right _ (List.mem_of_getElem? (i := 18) rfl)
set_option maxRecDepth 20000 in
theorem gt_19 : (.instantiable RD 3 : Cond) ∈ lw_tbl := List.mem_append_right _ (List.mem_of_getElem? (i := 19) rfl)
set_option maxRecDepth 20000 in
theorem gt_20 : (.methodLink RL 68 yD_init : Cond) ∈ lw_tbl := List.mem_append_right _ (List.mem_of_getElem? (i := 20) rfl)
set_option maxRecDepth 20000 in
theorem gt_21 : (.instanceMethod yD_init : Cond) ∈ lw_tbl := List.mem_append_right _ (List.mem_of_getElem? (i := 21) rfl)
set_option maxRecDepth 20000 in
theorem gt_22 : (.code yD_init cD_init 1 none : Cond) ∈ lw_tbl := List.mem_append_right _ (List.mem_of_getElem? (i := 22) rfl)
set_option maxRecDepth 20000 in
theorem gt_23 : (.methodLink RD 1 objectInit : Cond) ∈ lw_tbl := List.mem_append_right _ (List.mem_of_getElem? (i := 23) rfl)
set_option maxRecDepth 20000 in
theorem gt_24 : (.instanceMethod objectInit : Cond) ∈ lw_tbl := List.mem_append_right _ (List.mem_of_getElem? (i := 24) rfl)
set_option maxRecDepth 20000 in
theorem gt_25 : (.code objectInit ⟨#[0xb1]⟩ 1 none : Cond) ∈ lw_tbl := List.mem_append_right _ (List.mem_of_getElem? (i := 25) rfl)
set_option maxRecDepth 20000 in
theorem gt_26 : (.classLink RD 9 RN : Cond) ∈ lw_tbl := List.mem_append_right _ (List.mem_of_getElem? (i := 26) rfl)
set_option maxRecDepth 20000 in
theorem gt_27 : (.fieldLink RD 11 "LoanDesk" "loans" "[LLoanDesk$Loan;" : Cond) ∈ lw_tbl := List.mem_append_right _ (List.mem_of_getElem? (i := 28) rfl)
set_option maxRecDepth 20000 in
theorem gt_28 : (.fieldLink RD 15 "LoanDesk" "loanCount" "I" : Cond) ∈ lw_tbl := List.mem_append_right _ (List.mem_of_getElem? (i := 29) rfl)
set_option maxRecDepth 20000 in
theorem gt_29 : (.fieldLink RD 19 "LoanDesk" "today" "I" : Cond) ∈ lw_tbl := List.mem_append_right _ (List.mem_of_getElem? (i := 30) rfl)
set_option maxRecDepth 20000 in
theorem gt_30 : (.laysFinal RD "LoanDesk" "loans" "[LLoanDesk$Loan;" : Cond) ∈ lw_tbl := List.mem_append_right _ (List.mem_of_getElem? (i := 31) rfl)
set_option maxRecDepth 20000 in
theorem gt_31 : ((Jvm.Cond.soleField "LoanDesk" "loans") : Cond) ∈ lw_tbl := List.mem_append_right _ (List.mem_of_getElem? (i := 32) rfl)
set_option maxRecDepth 20000 in
theorem gt_32 : (.lays RD "LoanDesk" "loanCount" "I" : Cond) ∈ lw_tbl := List.mem_append_right _ (List.mem_of_getElem? (i := 33) rfl)
set_option maxRecDepth 20000 in
theorem gt_33 : ((Jvm.Cond.soleField "LoanDesk" "loanCount") : Cond) ∈ lw_tbl := List.mem_append_right _ (List.mem_of_getElem? (i := 34) rfl)
set_option maxRecDepth 20000 in
theorem gt_34 : (.lays RD "LoanDesk" "today" "I" : Cond) ∈ lw_tbl := List.mem_append_right _ (List.mem_of_getElem? (i := 35) rfl)
set_option maxRecDepth 20000 in
theorem gt_35 : ((Jvm.Cond.soleField "LoanDesk" "today") : Cond) ∈ lw_tbl := List.mem_append_right _ (List.mem_of_getElem? (i := 36) rfl)
set_option maxRecDepth 20000 in
theorem gt_36 : ((Jvm.Cond.superclass "LoanDesk" "java/lang/Object") : Cond) ∈ lw_tbl := List.mem_append_right _ (List.mem_of_getElem? (i := 37) rfl)
set_option maxRecDepth 20000 in
theorem gt_37 : (.methodLink RL 97 yD_date : Cond) ∈ lw_tbl := List.mem_append_right _ (List.mem_of_getElem? (i := 38) rfl)
set_option maxRecDepth 20000 in
theorem gt_38 : (.instanceMethod yD_date : Cond) ∈ lw_tbl := List.mem_append_right _ (List.mem_of_getElem? (i := 39) rfl)
set_option maxRecDepth 20000 in
theorem gt_39 : (.selects RD yD_date yD_date : Cond) ∈ lw_tbl := List.mem_append_right _ (List.mem_of_getElem? (i := 40) rfl)
theorem gtc_0 : ∀ w ∈ GW_0, w ∈ lw_tbl := List.forall_mem_cons.mpr ⟨gt_0, List.forall_mem_cons.mpr ⟨gt_1, List.forall_mem_cons.mpr ⟨gt_2, List.forall_mem_cons.mpr ⟨gt_3, List.forall_mem_cons.mpr ⟨gt_4, List.forall_mem_cons.mpr ⟨gt_5, List.forall_mem_cons.mpr ⟨gt_6, List.forall_mem_cons.mpr ⟨gt_7, List.forall_mem_cons.mpr ⟨gt_8, List.forall_mem_cons.mpr ⟨gt_9, List.forall_mem_cons.mpr ⟨gt_10, List.forall_mem_cons.mpr ⟨gt_11, List.forall_mem_cons.mpr ⟨gt_12, List.forall_mem_cons.mpr ⟨gt_13, List.forall_mem_cons.mpr ⟨gt_14, List.forall_mem_cons.mpr ⟨gt_15, List.forall_mem_cons.mpr ⟨gt_16, List.forall_mem_cons.mpr ⟨gt_17, List.forall_mem_cons.mpr ⟨gt_18, List.forall_mem_cons.mpr ⟨gt_19, List.forall_mem_cons.mpr ⟨gt_20, List.forall_mem_cons.mpr ⟨gt_21, List.forall_mem_cons.mpr ⟨gt_22, List.forall_mem_cons.mpr ⟨gt_23, List.forall_mem_cons.mpr ⟨gt_24, List.forall_mem_cons.mpr ⟨gt_25, List.forall_mem_cons.mpr ⟨gt_26, List.forall_mem_cons.mpr ⟨gt_27, List.forall_mem_cons.mpr ⟨gt_28, List.forall_mem_cons.mpr ⟨gt_29, List.forall_mem_cons.mpr ⟨gt_30, List.forall_mem_cons.mpr ⟨gt_31, List.forall_mem_cons.mpr ⟨gt_32, List.forall_mem_cons.mpr ⟨gt_33, List.forall_mem_cons.mpr ⟨gt_34, List.forall_mem_cons.mpr ⟨gt_35, List.forall_mem_cons.mpr ⟨gt_36, List.forall_mem_cons.mpr ⟨gt_37, List.forall_mem_cons.mpr ⟨gt_38, List.forall_mem_cons.mpr ⟨gt_39, fun _ h => absurd h List.not_mem_nil⟩⟩⟩⟩⟩⟩⟩⟩⟩⟩⟩⟩⟩⟩⟩⟩⟩⟩⟩⟩⟩⟩⟩⟩⟩⟩⟩⟩⟩⟩⟩⟩⟩⟩⟩⟩⟩⟩⟩⟩
set_option maxRecDepth 20000 in
theorem gt_40 : (.code yD_date cD_date 2 (some .int) : Cond) ∈ lw_tbl := List.mem_append_right _ (List.mem_of_getElem? (i := 41) rfl)
set_option maxRecDepth 20000 in
theorem gt_41 : (.methodLink RD 76 yY_monthOf : Cond) ∈ lw_tbl := List.mem_append_right _ (List.mem_of_getElem? (i := 42) rfl)
set_option maxRecDepth 20000 in
theorem gt_42 : (.static yY_monthOf : Cond) ∈ lw_tbl := List.mem_append_right _ (List.mem_of_getElem? (i := 43) rfl)
set_option maxRecDepth 20000 in
theorem gt_43 : (.code yY_monthOf cY_monthOf 4 (some .int) : Cond) ∈ lw_tbl := List.mem_append_right _ (List.mem_of_getElem? (i := 44) rfl)
set_option maxRecDepth 20000 in
theorem gt_44 : (.methodLink RD 82 yY_numberInMonth : Cond) ∈ lw_tbl := List.mem_append_right _ (List.mem_of_getElem? (i := 45) rfl)
set_option maxRecDepth 20000 in
theorem gt_45 : (.static yY_numberInMonth : Cond) ∈ lw_tbl := List.mem_append_right _ (List.mem_of_getElem? (i := 46) rfl)
set_option maxRecDepth 20000 in
theorem gt_46 : (.code yY_numberInMonth cY_numberInMonth 1 (some .int) : Cond) ∈ lw_tbl := List.mem_append_right _ (List.mem_of_getElem? (i := 47) rfl)
set_option maxRecDepth 20000 in
theorem gt_47 : (.methodLink RY 9 yY_monthOf : Cond) ∈ lw_tbl := List.mem_append_right _ (List.mem_of_getElem? (i := 48) rfl)
set_option maxRecDepth 20000 in
theorem gt_48 : (.methodLink RY 13 yY_firstDayOf : Cond) ∈ lw_tbl := List.mem_append_right _ (List.mem_of_getElem? (i := 49) rfl)
set_option maxRecDepth 20000 in
theorem gt_49 : (.static yY_firstDayOf : Cond) ∈ lw_tbl := List.mem_append_right _ (List.mem_of_getElem? (i := 50) rfl)
set_option maxRecDepth 20000 in
theorem gt_50 : (.code yY_firstDayOf cY_firstDayOf 4 (some .int) : Cond) ∈ lw_tbl := List.mem_append_right _ (List.mem_of_getElem? (i := 51) rfl)
set_option maxRecDepth 20000 in
theorem gt_51 : (.methodLink RL 72 yL_open : Cond) ∈ lw_tbl := List.mem_append_right _ (List.mem_of_getElem? (i := 52) rfl)
set_option maxRecDepth 20000 in
theorem gt_52 : (.static yL_open : Cond) ∈ lw_tbl := List.mem_append_right _ (List.mem_of_getElem? (i := 53) rfl)
set_option maxRecDepth 20000 in
theorem gt_53 : (.codeWith yL_open cL_open 9 (some .int) [(0, 18, 21, 13), (0, 18, 25, 15)] : Cond) ∈ lw_tbl := List.mem_append_right _ (List.mem_of_getElem? (i := 54) rfl)
set_option maxRecDepth 20000 in
theorem gt_54 : (.classLink RL 13 "java/lang/IllegalArgumentException" : Cond) ∈ lw_tbl := List.mem_append_right _ (List.mem_of_getElem? (i := 55) rfl)
set_option maxRecDepth 20000 in
theorem gt_55 : (.classLink RL 15 "java/lang/IllegalStateException" : Cond) ∈ lw_tbl := List.mem_append_right _ (List.mem_of_getElem? (i := 56) rfl)
set_option maxRecDepth 20000 in
theorem gt_56 : (.methodLink RL 7 yD_open : Cond) ∈ lw_tbl := List.mem_append_right _ (List.mem_of_getElem? (i := 57) rfl)
set_option maxRecDepth 20000 in
theorem gt_57 : (.instanceMethod yD_open : Cond) ∈ lw_tbl := List.mem_append_right _ (List.mem_of_getElem? (i := 58) rfl)
set_option maxRecDepth 20000 in
theorem gt_58 : (.selects RD yD_open yD_open : Cond) ∈ lw_tbl := List.mem_append_right _ (List.mem_of_getElem? (i := 59) rfl)
set_option maxRecDepth 20000 in
theorem gt_59 : (.code yD_open cD_open 9 (some .int) : Cond) ∈ lw_tbl := List.mem_append_right _ (List.mem_of_getElem? (i := 60) rfl)
set_option maxRecDepth 20000 in
theorem gt_60 : (.constant RD 22 (100000000) : Cond) ∈ lw_tbl := List.mem_append_right _ (List.mem_of_getElem? (i := 61) rfl)
set_option maxRecDepth 20000 in
theorem gt_61 : (.methodLink RD 23 yD_within : Cond) ∈ lw_tbl := List.mem_append_right _ (List.mem_of_getElem? (i := 62) rfl)
set_option maxRecDepth 20000 in
theorem gt_62 : (.static yD_within : Cond) ∈ lw_tbl := List.mem_append_right _ (List.mem_of_getElem? (i := 63) rfl)
set_option maxRecDepth 20000 in
theorem gt_63 : (.code yD_within cD_within 3 (some .boolean) : Cond) ∈ lw_tbl := List.mem_append_right _ (List.mem_of_getElem? (i := 64) rfl)
set_option maxRecDepth 20000 in
theorem gt_64 : (.classLink RD 27 "java/lang/IllegalArgumentException" : Cond) ∈ lw_tbl := List.mem_append_right _ (List.mem_of_getElem? (i := 65) rfl)
set_option maxRecDepth 20000 in
theorem gt_65 : (.instantiable "java/lang/IllegalArgumentException" 6 : Cond) ∈ lw_tbl := List.mem_append_right _ (List.mem_of_getElem? (i := 66) rfl)
set_option maxRecDepth 20000 in
theorem gt_66 : (.selects "java/lang/IllegalArgumentException" ⟨"java/lang/Throwable", "fillInStackTrace", "(I)Ljava/lang/Throwable;"⟩ ⟨"java/lang/Throwable", "fillInStackTrace", "(I)Ljava/lang/Throwable;"⟩ : Cond) ∈ lw_tbl := List.mem_append_right _ (List.mem_of_getElem? (i := 74) rfl)
set_option maxRecDepth 20000 in
theorem gt_67 : (.selects "java/lang/IllegalArgumentException" ⟨"java/lang/Throwable", "fillInStackTrace", "()Ljava/lang/Throwable;"⟩ ⟨"java/lang/Throwable", "fillInStackTrace", "()Ljava/lang/Throwable;"⟩ : Cond) ∈ lw_tbl := List.mem_append_right _ (List.mem_of_getElem? (i := 75) rfl)
set_option maxRecDepth 20000 in
theorem gt_68 : (.lays "java/lang/IllegalArgumentException" "java/lang/Throwable" "cause" "Ljava/lang/Throwable;" : Cond) ∈ lw_tbl := List.mem_append_right _ (List.mem_of_getElem? (i := 76) rfl)
set_option maxRecDepth 20000 in
theorem gt_69 : (.lays "java/lang/Throwable" "java/lang/Throwable" "cause" "Ljava/lang/Throwable;" : Cond) ∈ lw_tbl := List.mem_append_right _ (List.mem_of_getElem? (i := 77) rfl)
set_option maxRecDepth 20000 in
theorem gt_70 : (.lays "java/lang/IllegalArgumentException" "java/lang/Throwable" "stackTrace" "[Ljava/lang/StackTraceElement;" : Cond) ∈ lw_tbl := List.mem_append_right _ (List.mem_of_getElem? (i := 78) rfl)
set_option maxRecDepth 20000 in
theorem gt_71 : (.lays "java/lang/Throwable" "java/lang/Throwable" "stackTrace" "[Ljava/lang/StackTraceElement;" : Cond) ∈ lw_tbl := List.mem_append_right _ (List.mem_of_getElem? (i := 79) rfl)
set_option maxRecDepth 20000 in
theorem gt_72 : (.lays "java/lang/IllegalArgumentException" "java/lang/Throwable" "suppressedExceptions" "Ljava/util/List;" : Cond) ∈ lw_tbl := List.mem_append_right _ (List.mem_of_getElem? (i := 80) rfl)
set_option maxRecDepth 20000 in
theorem gt_73 : (.lays "java/lang/Throwable" "java/lang/Throwable" "suppressedExceptions" "Ljava/util/List;" : Cond) ∈ lw_tbl := List.mem_append_right _ (List.mem_of_getElem? (i := 81) rfl)
set_option maxRecDepth 20000 in
theorem gt_74 : (.lays "java/lang/IllegalArgumentException" "java/lang/Throwable" "detailMessage" "Ljava/lang/String;" : Cond) ∈ lw_tbl := List.mem_append_right _ (List.mem_of_getElem? (i := 82) rfl)
set_option maxRecDepth 20000 in
theorem gt_75 : (.lays "java/lang/Throwable" "java/lang/Throwable" "detailMessage" "Ljava/lang/String;" : Cond) ∈ lw_tbl := List.mem_append_right _ (List.mem_of_getElem? (i := 83) rfl)
set_option maxRecDepth 20000 in
theorem gt_76 : (.lays "java/lang/IllegalArgumentException" "java/lang/Throwable" "backtrace" "Ljava/lang/Object;" : Cond) ∈ lw_tbl := List.mem_append_right _ (List.mem_of_getElem? (i := 84) rfl)
set_option maxRecDepth 20000 in
theorem gt_77 : (.lays "java/lang/Throwable" "java/lang/Throwable" "backtrace" "Ljava/lang/Object;" : Cond) ∈ lw_tbl := List.mem_append_right _ (List.mem_of_getElem? (i := 85) rfl)
set_option maxRecDepth 20000 in
theorem gt_78 : (.fieldLink "java/lang/Throwable" 198 "java/lang/Throwable" "backtrace" "Ljava/lang/Object;" : Cond) ∈ lw_tbl := List.mem_append_right _ (List.mem_of_getElem? (i := 86) rfl)
set_option maxRecDepth 20000 in
theorem gt_79 : ((Jvm.Cond.superclass "java/lang/Throwable" "java/lang/Object") : Cond) ∈ lw_tbl := List.mem_append_right _ (List.mem_of_getElem? (i := 87) rfl)
theorem gtc_1 : ∀ w ∈ GW_1, w ∈ lw_tbl := List.forall_mem_cons.mpr ⟨gt_40, List.forall_mem_cons.mpr ⟨gt_41, List.forall_mem_cons.mpr ⟨gt_42, List.forall_mem_cons.mpr ⟨gt_43, List.forall_mem_cons.mpr ⟨gt_44, List.forall_mem_cons.mpr ⟨gt_45, List.forall_mem_cons.mpr ⟨gt_46, List.forall_mem_cons.mpr ⟨gt_47, List.forall_mem_cons.mpr ⟨gt_48, List.forall_mem_cons.mpr ⟨gt_49, List.forall_mem_cons.mpr ⟨gt_50, List.forall_mem_cons.mpr ⟨gt_51, List.forall_mem_cons.mpr ⟨gt_52, List.forall_mem_cons.mpr ⟨gt_53, List.forall_mem_cons.mpr ⟨gt_54, List.forall_mem_cons.mpr ⟨gt_55, List.forall_mem_cons.mpr ⟨gt_56, List.forall_mem_cons.mpr ⟨gt_57, List.forall_mem_cons.mpr ⟨gt_58, List.forall_mem_cons.mpr ⟨gt_59, List.forall_mem_cons.mpr ⟨gt_60, List.forall_mem_cons.mpr ⟨gt_61, List.forall_mem_cons.mpr ⟨gt_62, List.forall_mem_cons.mpr ⟨gt_63, List.forall_mem_cons.mpr ⟨gt_64, List.forall_mem_cons.mpr ⟨gt_65, List.forall_mem_cons.mpr ⟨gt_66, List.forall_mem_cons.mpr ⟨gt_67, List.forall_mem_cons.mpr ⟨gt_68, List.forall_mem_cons.mpr ⟨gt_69, List.forall_mem_cons.mpr ⟨gt_70, List.forall_mem_cons.mpr ⟨gt_71, List.forall_mem_cons.mpr ⟨gt_72, List.forall_mem_cons.mpr ⟨gt_73, List.forall_mem_cons.mpr ⟨gt_74, List.forall_mem_cons.mpr ⟨gt_75, List.forall_mem_cons.mpr ⟨gt_76, List.forall_mem_cons.mpr ⟨gt_77, List.forall_mem_cons.mpr ⟨gt_78, List.forall_mem_cons.mpr ⟨gt_79, fun _ h => absurd h List.not_mem_nil⟩⟩⟩⟩⟩⟩⟩⟩⟩⟩⟩⟩⟩⟩⟩⟩⟩⟩⟩⟩⟩⟩⟩⟩⟩⟩⟩⟩⟩⟩⟩⟩⟩⟩⟩⟩⟩⟩⟩⟩
set_option maxRecDepth 20000 in
theorem gt_80 : (.instanceMethod ⟨"java/lang/Throwable", "<init>", "()V"⟩ : Cond) ∈ lw_tbl := List.mem_append_right _ (List.mem_of_getElem? (i := 88) rfl)
set_option maxRecDepth 20000 in
theorem gt_81 : ((Jvm.Cond.code ({ cls := "java/lang/Throwable", name := "<init>", desc := "()V" } : Jvm.MethodName) prog_17_method_1_code (1 : Nat) (Option.none : Option Jvm.ClassFile.FieldType)) : Cond) ∈ lw_tbl := List.mem_append_right _ (List.mem_of_getElem? (i := 89) rfl)
set_option maxRecDepth 20000 in
theorem gt_82 : (.methodLink "java/lang/Throwable" 1 objectInit : Cond) ∈ lw_tbl := List.mem_append_right _ (List.mem_of_getElem? (i := 90) rfl)
set_option maxRecDepth 20000 in
theorem gt_83 : (.fieldLink "java/lang/Throwable" 13 "java/lang/Throwable" "UNASSIGNED_STACK" "[Ljava/lang/StackTraceElement;" : Cond) ∈ lw_tbl := List.mem_append_right _ (List.mem_of_getElem? (i := 91) rfl)
set_option maxRecDepth 20000 in
theorem gt_84 : (.fieldLink "java/lang/Throwable" 20 "java/lang/Throwable" "SUPPRESSED_SENTINEL" "Ljava/util/List;" : Cond) ∈ lw_tbl := List.mem_append_right _ (List.mem_of_getElem? (i := 93) rfl)
set_option maxRecDepth 20000 in
theorem gt_85 : (.methodLink "java/lang/Throwable" 27 ⟨"java/lang/Throwable", "fillInStackTrace", "()Ljava/lang/Throwable;"⟩ : Cond) ∈ lw_tbl := List.mem_append_right _ (List.mem_of_getElem? (i := 95) rfl)
set_option maxRecDepth 20000 in
theorem gt_86 : (.instanceMethod ⟨"java/lang/Throwable", "fillInStackTrace", "()Ljava/lang/Throwable;"⟩ : Cond) ∈ lw_tbl := List.mem_append_right _ (List.mem_of_getElem? (i := 96) rfl)
set_option maxRecDepth 20000 in
theorem gt_87 : ((Jvm.Cond.sameMethod "java/lang/Throwable" "java/lang/Throwable" "fillInStackTrace" "()Ljava/lang/Throwable;") : Cond) ∈ lw_tbl := List.mem_append_right _ (List.mem_of_getElem? (i := 97) rfl)
set_option maxRecDepth 20000 in
theorem gt_88 : (.selects "java/lang/IllegalStateException" ⟨"java/lang/Throwable", "fillInStackTrace", "()Ljava/lang/Throwable;"⟩ ⟨"java/lang/Throwable", "fillInStackTrace", "()Ljava/lang/Throwable;"⟩ : Cond) ∈ lw_tbl := List.mem_append_right _ (List.mem_of_getElem? (i := 98) rfl)
set_option maxRecDepth 20000 in
theorem gt_89 : (.selects "java/lang/IndexOutOfBoundsException" ⟨"java/lang/Throwable", "fillInStackTrace", "()Ljava/lang/Throwable;"⟩ ⟨"java/lang/Throwable", "fillInStackTrace", "()Ljava/lang/Throwable;"⟩ : Cond) ∈ lw_tbl := List.mem_append_right _ (List.mem_of_getElem? (i := 99) rfl)
set_option maxRecDepth 20000 in
theorem gt_90 : (.selects "java/util/NoSuchElementException" ⟨"java/lang/Throwable", "fillInStackTrace", "()Ljava/lang/Throwable;"⟩ ⟨"java/lang/Throwable", "fillInStackTrace", "()Ljava/lang/Throwable;"⟩ : Cond) ∈ lw_tbl := List.mem_append_right _ (List.mem_of_getElem? (i := 100) rfl)
set_option maxRecDepth 20000 in
theorem gt_91 : ((Jvm.Cond.codeSync ({ cls := "java/lang/Throwable", name := "fillInStackTrace", desc := "()Ljava/lang/Throwable;" } : Jvm.MethodName) prog_17_method_18_code (1 : Nat) (Option.some (Jvm.ClassFile.FieldType.object "java/lang/Throwable"))) : Cond) ∈ lw_tbl := List.mem_append_right _ (List.mem_of_getElem? (i := 101) rfl)
set_option maxRecDepth 20000 in
theorem gt_92 : (.methodLink "java/lang/Throwable" 202 ⟨"java/lang/Throwable", "fillInStackTrace", "(I)Ljava/lang/Throwable;"⟩ : Cond) ∈ lw_tbl := List.mem_append_right _ (List.mem_of_getElem? (i := 102) rfl)
set_option maxRecDepth 20000 in
theorem gt_93 : (.instanceMethod ⟨"java/lang/Throwable", "fillInStackTrace", "(I)Ljava/lang/Throwable;"⟩ : Cond) ∈ lw_tbl := List.mem_append_right _ (List.mem_of_getElem? (i := 104) rfl)
set_option maxRecDepth 20000 in
theorem gt_94 : (.instantiable "java/lang/Throwable" 6 : Cond) ∈ lw_tbl := List.mem_append_right _ (List.mem_of_getElem? (i := 105) rfl)
set_option maxRecDepth 20000 in
theorem gt_95 : ((Jvm.Cond.native ({ cls := "java/lang/Throwable", name := "fillInStackTrace", desc := "(I)Ljava/lang/Throwable;" } : Jvm.MethodName)) : Cond) ∈ lw_tbl := List.mem_append_right _ (List.mem_of_getElem? (i := 106) rfl)
set_option maxRecDepth 20000 in
theorem gt_96 : (.methodLink RD 29 ⟨"java/lang/IllegalArgumentException", "<init>", "()V"⟩ : Cond) ∈ lw_tbl := List.mem_append_right _ (List.mem_of_getElem? (i := 107) rfl)
set_option maxRecDepth 20000 in
theorem gt_97 : (.instanceMethod ⟨"java/lang/IllegalArgumentException", "<init>", "()V"⟩ : Cond) ∈ lw_tbl := List.mem_append_right _ (List.mem_of_getElem? (i := 108) rfl)
set_option maxRecDepth 20000 in
theorem gt_98 : ((Jvm.Cond.code ({ cls := "java/lang/IllegalArgumentException", name := "<init>", desc := "()V" } : Jvm.MethodName) prog_12_method_1_code (1 : Nat) (Option.none : Option Jvm.ClassFile.FieldType)) : Cond) ∈ lw_tbl := List.mem_append_right _ (List.mem_of_getElem? (i := 109) rfl)
set_option maxRecDepth 20000 in
theorem gt_99 : (.methodLink "java/lang/IllegalArgumentException" 1 ⟨"java/lang/RuntimeException", "<init>", "()V"⟩ : Cond) ∈ lw_tbl := List.mem_append_right _ (List.mem_of_getElem? (i := 110) rfl)
set_option maxRecDepth 20000 in
theorem gt_100 : (.instanceMethod ⟨"java/lang/RuntimeException", "<init>", "()V"⟩ : Cond) ∈ lw_tbl := List.mem_append_right _ (List.mem_of_getElem? (i := 111) rfl)
set_option maxRecDepth 20000 in
theorem gt_101 : ((Jvm.Cond.code ({ cls := "java/lang/RuntimeException", name := "<init>", desc := "()V" } : Jvm.MethodName) prog_16_method_1_code (1 : Nat) (Option.none : Option Jvm.ClassFile.FieldType)) : Cond) ∈ lw_tbl := List.mem_append_right _ (List.mem_of_getElem? (i := 112) rfl)
set_option maxRecDepth 20000 in
theorem gt_102 : (.methodLink "java/lang/RuntimeException" 1 ⟨"java/lang/Exception", "<init>", "()V"⟩ : Cond) ∈ lw_tbl := List.mem_append_right _ (List.mem_of_getElem? (i := 113) rfl)
set_option maxRecDepth 20000 in
theorem gt_103 : (.instanceMethod ⟨"java/lang/Exception", "<init>", "()V"⟩ : Cond) ∈ lw_tbl := List.mem_append_right _ (List.mem_of_getElem? (i := 114) rfl)
set_option maxRecDepth 20000 in
theorem gt_104 : ((Jvm.Cond.code ({ cls := "java/lang/Exception", name := "<init>", desc := "()V" } : Jvm.MethodName) prog_11_method_1_code (1 : Nat) (Option.none : Option Jvm.ClassFile.FieldType)) : Cond) ∈ lw_tbl := List.mem_append_right _ (List.mem_of_getElem? (i := 115) rfl)
set_option maxRecDepth 20000 in
theorem gt_105 : (.methodLink "java/lang/Exception" 1 ⟨"java/lang/Throwable", "<init>", "()V"⟩ : Cond) ∈ lw_tbl := List.mem_append_right _ (List.mem_of_getElem? (i := 116) rfl)
set_option maxRecDepth 20000 in
theorem gt_106 : (.fieldLink "java/lang/Throwable" 198 "java/lang/Throwable" "backtrace" "Ljava/lang/Object;" : Cond) ∈ lw_tbl := List.mem_append_right _ (List.mem_of_getElem? (i := 117) rfl)
set_option maxRecDepth 20000 in
theorem gt_107 : (.fieldLink "java/lang/Throwable" 7 "java/lang/Throwable" "cause" "Ljava/lang/Throwable;" : Cond) ∈ lw_tbl := List.mem_append_right _ (List.mem_of_getElem? (i := 118) rfl)
set_option maxRecDepth 20000 in
theorem gt_108 : (.fieldLink "java/lang/Throwable" 17 "java/lang/Throwable" "stackTrace" "[Ljava/lang/StackTraceElement;" : Cond) ∈ lw_tbl := List.mem_append_right _ (List.mem_of_getElem? (i := 119) rfl)
set_option maxRecDepth 20000 in
theorem gt_109 : (.fieldLink "java/lang/Throwable" 24 "java/lang/Throwable" "suppressedExceptions" "Ljava/util/List;" : Cond) ∈ lw_tbl := List.mem_append_right _ (List.mem_of_getElem? (i := 120) rfl)
set_option maxRecDepth 20000 in
theorem gt_110 : ((Jvm.Cond.soleField "java/lang/Throwable" "backtrace") : Cond) ∈ lw_tbl := List.mem_append_right _ (List.mem_of_getElem? (i := 121) rfl)
set_option maxRecDepth 20000 in
theorem gt_111 : ((Jvm.Cond.soleField "java/lang/Throwable" "detailMessage") : Cond) ∈ lw_tbl := List.mem_append_right _ (List.mem_of_getElem? (i := 122) rfl)
set_option maxRecDepth 20000 in
theorem gt_112 : ((Jvm.Cond.soleField "java/lang/Throwable" "cause") : Cond) ∈ lw_tbl := List.mem_append_right _ (List.mem_of_getElem? (i := 123) rfl)
set_option maxRecDepth 20000 in
theorem gt_113 : ((Jvm.Cond.soleField "java/lang/Throwable" "stackTrace") : Cond) ∈ lw_tbl := List.mem_append_right _ (List.mem_of_getElem? (i := 124) rfl)
set_option maxRecDepth 20000 in
theorem gt_114 : (.lays "java/lang/IllegalArgumentException" "java/lang/Throwable" "depth" "I" : Cond) ∈ lw_tbl := List.mem_append_right _ (List.mem_of_getElem? (i := 125) rfl)
set_option maxRecDepth 20000 in
theorem gt_115 : ((Jvm.Cond.soleField "java/lang/Throwable" "depth") : Cond) ∈ lw_tbl := List.mem_append_right _ (List.mem_of_getElem? (i := 126) rfl)
set_option maxRecDepth 20000 in
theorem gt_116 : ((Jvm.Cond.soleField "java/lang/Throwable" "suppressedExceptions") : Cond) ∈ lw_tbl := List.mem_append_right _ (List.mem_of_getElem? (i := 127) rfl)
set_option maxRecDepth 20000 in
theorem gt_117 : ((Jvm.Cond.superclass "java/lang/IllegalArgumentException" "java/lang/RuntimeException") : Cond) ∈ lw_tbl := List.mem_append_right _ (List.mem_of_getElem? (i := 128) rfl)
set_option maxRecDepth 20000 in
theorem gt_118 : (.classLink RD 30 "java/lang/IllegalStateException" : Cond) ∈ lw_tbl := List.mem_append_right _ (List.mem_of_getElem? (i := 129) rfl)
set_option maxRecDepth 20000 in
theorem gt_119 : (.instantiable "java/lang/IllegalStateException" 6 : Cond) ∈ lw_tbl := List.mem_append_right _ (List.mem_of_getElem? (i := 130) rfl)
theorem gtc_2 : ∀ w ∈ GW_2, w ∈ lw_tbl := List.forall_mem_cons.mpr ⟨gt_80, List.forall_mem_cons.mpr ⟨gt_81, List.forall_mem_cons.mpr ⟨gt_82, List.forall_mem_cons.mpr ⟨gt_83, List.forall_mem_cons.mpr ⟨gt_84, List.forall_mem_cons.mpr ⟨gt_85, List.forall_mem_cons.mpr ⟨gt_86, List.forall_mem_cons.mpr ⟨gt_87, List.forall_mem_cons.mpr ⟨gt_88, List.forall_mem_cons.mpr ⟨gt_89, List.forall_mem_cons.mpr ⟨gt_90, List.forall_mem_cons.mpr ⟨gt_91, List.forall_mem_cons.mpr ⟨gt_92, List.forall_mem_cons.mpr ⟨gt_93, List.forall_mem_cons.mpr ⟨gt_94, List.forall_mem_cons.mpr ⟨gt_95, List.forall_mem_cons.mpr ⟨gt_96, List.forall_mem_cons.mpr ⟨gt_97, List.forall_mem_cons.mpr ⟨gt_98, List.forall_mem_cons.mpr ⟨gt_99, List.forall_mem_cons.mpr ⟨gt_100, List.forall_mem_cons.mpr ⟨gt_101, List.forall_mem_cons.mpr ⟨gt_102, List.forall_mem_cons.mpr ⟨gt_103, List.forall_mem_cons.mpr ⟨gt_104, List.forall_mem_cons.mpr ⟨gt_105, List.forall_mem_cons.mpr ⟨gt_106, List.forall_mem_cons.mpr ⟨gt_107, List.forall_mem_cons.mpr ⟨gt_108, List.forall_mem_cons.mpr ⟨gt_109, List.forall_mem_cons.mpr ⟨gt_110, List.forall_mem_cons.mpr ⟨gt_111, List.forall_mem_cons.mpr ⟨gt_112, List.forall_mem_cons.mpr ⟨gt_113, List.forall_mem_cons.mpr ⟨gt_114, List.forall_mem_cons.mpr ⟨gt_115, List.forall_mem_cons.mpr ⟨gt_116, List.forall_mem_cons.mpr ⟨gt_117, List.forall_mem_cons.mpr ⟨gt_118, List.forall_mem_cons.mpr ⟨gt_119, fun _ h => absurd h List.not_mem_nil⟩⟩⟩⟩⟩⟩⟩⟩⟩⟩⟩⟩⟩⟩⟩⟩⟩⟩⟩⟩⟩⟩⟩⟩⟩⟩⟩⟩⟩⟩⟩⟩⟩⟩⟩⟩⟩⟩⟩⟩
set_option maxRecDepth 20000 in
theorem gt_120 : (.selects "java/lang/IllegalStateException" ⟨"java/lang/Throwable", "fillInStackTrace", "(I)Ljava/lang/Throwable;"⟩ ⟨"java/lang/Throwable", "fillInStackTrace", "(I)Ljava/lang/Throwable;"⟩ : Cond) ∈ lw_tbl := List.mem_append_right _ (List.mem_of_getElem? (i := 132) rfl)
set_option maxRecDepth 20000 in
theorem gt_121 : (.lays "java/lang/IllegalStateException" "java/lang/Throwable" "cause" "Ljava/lang/Throwable;" : Cond) ∈ lw_tbl := List.mem_append_right _ (List.mem_of_getElem? (i := 133) rfl)
set_option maxRecDepth 20000 in
theorem gt_122 : (.lays "java/lang/IllegalStateException" "java/lang/Throwable" "stackTrace" "[Ljava/lang/StackTraceElement;" : Cond) ∈ lw_tbl := List.mem_append_right _ (List.mem_of_getElem? (i := 134) rfl)
set_option maxRecDepth 20000 in
theorem gt_123 : (.lays "java/lang/IllegalStateException" "java/lang/Throwable" "suppressedExceptions" "Ljava/util/List;" : Cond) ∈ lw_tbl := List.mem_append_right _ (List.mem_of_getElem? (i := 135) rfl)
set_option maxRecDepth 20000 in
theorem gt_124 : (.lays "java/lang/IllegalStateException" "java/lang/Throwable" "detailMessage" "Ljava/lang/String;" : Cond) ∈ lw_tbl := List.mem_append_right _ (List.mem_of_getElem? (i := 136) rfl)
set_option maxRecDepth 20000 in
theorem gt_125 : (.lays "java/lang/IllegalStateException" "java/lang/Throwable" "backtrace" "Ljava/lang/Object;" : Cond) ∈ lw_tbl := List.mem_append_right _ (List.mem_of_getElem? (i := 137) rfl)
set_option maxRecDepth 20000 in
theorem gt_126 : (.methodLink RD 32 ⟨"java/lang/IllegalStateException", "<init>", "()V"⟩ : Cond) ∈ lw_tbl := List.mem_append_right _ (List.mem_of_getElem? (i := 138) rfl)
set_option maxRecDepth 20000 in
theorem gt_127 : (.instanceMethod ⟨"java/lang/IllegalStateException", "<init>", "()V"⟩ : Cond) ∈ lw_tbl := List.mem_append_right _ (List.mem_of_getElem? (i := 139) rfl)
set_option maxRecDepth 20000 in
theorem gt_128 : ((Jvm.Cond.code ({ cls := "java/lang/IllegalStateException", name := "<init>", desc := "()V" } : Jvm.MethodName) prog_13_method_1_code (1 : Nat) (Option.none : Option Jvm.ClassFile.FieldType)) : Cond) ∈ lw_tbl := List.mem_append_right _ (List.mem_of_getElem? (i := 140) rfl)
set_option maxRecDepth 20000 in
theorem gt_129 : (.methodLink "java/lang/IllegalStateException" 1 ⟨"java/lang/RuntimeException", "<init>", "()V"⟩ : Cond) ∈ lw_tbl := List.mem_append_right _ (List.mem_of_getElem? (i := 141) rfl)
set_option maxRecDepth 20000 in
theorem gt_130 : (.lays "java/lang/IllegalStateException" "java/lang/Throwable" "depth" "I" : Cond) ∈ lw_tbl := List.mem_append_right _ (List.mem_of_getElem? (i := 142) rfl)
set_option maxRecDepth 20000 in
theorem gt_131 : ((Jvm.Cond.superclass "java/lang/IllegalStateException" "java/lang/RuntimeException") : Cond) ∈ lw_tbl := List.mem_append_right _ (List.mem_of_getElem? (i := 143) rfl)
set_option maxRecDepth 20000 in
theorem gt_132 : (.classLink RD 33 RT : Cond) ∈ lw_tbl := List.mem_append_right _ (List.mem_of_getElem? (i := 144) rfl)
set_option maxRecDepth 20000 in
theorem gt_133 : (.instantiable RT 7 : Cond) ∈ lw_tbl := List.mem_append_right _ (List.mem_of_getElem? (i := 145) rfl)
set_option maxRecDepth 20000 in
theorem gt_134 : (.methodLink RD 35 yT_init : Cond) ∈ lw_tbl := List.mem_append_right _ (List.mem_of_getElem? (i := 146) rfl)
set_option maxRecDepth 20000 in
theorem gt_135 : (.instanceMethod yT_init : Cond) ∈ lw_tbl := List.mem_append_right _ (List.mem_of_getElem? (i := 147) rfl)
set_option maxRecDepth 20000 in
theorem gt_136 : (.code yT_init cT_init 7 none : Cond) ∈ lw_tbl := List.mem_append_right _ (List.mem_of_getElem? (i := 148) rfl)
set_option maxRecDepth 20000 in
theorem gt_137 : (.methodLink RT 1 objectInit : Cond) ∈ lw_tbl := List.mem_append_right _ (List.mem_of_getElem? (i := 149) rfl)
set_option maxRecDepth 20000 in
theorem gt_138 : (.methodLink RT 26 yY_monthOf : Cond) ∈ lw_tbl := List.mem_append_right _ (List.mem_of_getElem? (i := 150) rfl)
set_option maxRecDepth 20000 in
theorem gt_139 : (.methodLink RT 35 yY_numberInMonth : Cond) ∈ lw_tbl := List.mem_append_right _ (List.mem_of_getElem? (i := 151) rfl)
set_option maxRecDepth 20000 in
theorem gt_140 : (.fieldLink RT 7 "LoanDesk$Terms" "rate" "I" : Cond) ∈ lw_tbl := List.mem_append_right _ (List.mem_of_getElem? (i := 152) rfl)
set_option maxRecDepth 20000 in
theorem gt_141 : (.fieldLink RN 67 "LoanDesk$Terms" "rate" "I" : Cond) ∈ lw_tbl := List.mem_append_right _ (List.mem_of_getElem? (i := 153) rfl)
set_option maxRecDepth 20000 in
theorem gt_142 : (.fieldLink RT 13 "LoanDesk$Terms" "months" "I" : Cond) ∈ lw_tbl := List.mem_append_right _ (List.mem_of_getElem? (i := 154) rfl)
set_option maxRecDepth 20000 in
theorem gt_143 : (.fieldLink RN 118 "LoanDesk$Terms" "months" "I" : Cond) ∈ lw_tbl := List.mem_append_right _ (List.mem_of_getElem? (i := 155) rfl)
set_option maxRecDepth 20000 in
theorem gt_144 : (.fieldLink RT 16 "LoanDesk$Terms" "rule" "I" : Cond) ∈ lw_tbl := List.mem_append_right _ (List.mem_of_getElem? (i := 156) rfl)
set_option maxRecDepth 20000 in
theorem gt_145 : (.fieldLink RN 55 "LoanDesk$Terms" "rule" "I" : Cond) ∈ lw_tbl := List.mem_append_right _ (List.mem_of_getElem? (i := 157) rfl)
set_option maxRecDepth 20000 in
theorem gt_146 : (.fieldLink RT 19 "LoanDesk$Terms" "rounding" "I" : Cond) ∈ lw_tbl := List.mem_append_right _ (List.mem_of_getElem? (i := 158) rfl)
set_option maxRecDepth 20000 in
theorem gt_147 : (.fieldLink RN 70 "LoanDesk$Terms" "rounding" "I" : Cond) ∈ lw_tbl := List.mem_append_right _ (List.mem_of_getElem? (i := 159) rfl)
set_option maxRecDepth 20000 in
theorem gt_148 : (.fieldLink RT 22 "LoanDesk$Terms" "steady" "Z" : Cond) ∈ lw_tbl := List.mem_append_right _ (List.mem_of_getElem? (i := 160) rfl)
set_option maxRecDepth 20000 in
theorem gt_149 : (.fieldLink RN 143 "LoanDesk$Terms" "steady" "Z" : Cond) ∈ lw_tbl := List.mem_append_right _ (List.mem_of_getElem? (i := 161) rfl)
set_option maxRecDepth 20000 in
theorem gt_150 : (.fieldLink RT 32 "LoanDesk$Terms" "monthOpened" "I" : Cond) ∈ lw_tbl := List.mem_append_right _ (List.mem_of_getElem? (i := 162) rfl)
set_option maxRecDepth 20000 in
theorem gt_151 : (.fieldLink RT 38 "LoanDesk$Terms" "numberInMonth" "I" : Cond) ∈ lw_tbl := List.mem_append_right _ (List.mem_of_getElem? (i := 163) rfl)
set_option maxRecDepth 20000 in
theorem gt_152 : (.laysFinal RT "LoanDesk$Terms" "rate" "I" : Cond) ∈ lw_tbl := List.mem_append_right _ (List.mem_of_getElem? (i := 164) rfl)
set_option maxRecDepth 20000 in
theorem gt_153 : ((Jvm.Cond.soleField "LoanDesk$Terms" "rate") : Cond) ∈ lw_tbl := List.mem_append_right _ (List.mem_of_getElem? (i := 165) rfl)
set_option maxRecDepth 20000 in
theorem gt_154 : (.laysFinal RT "LoanDesk$Terms" "months" "I" : Cond) ∈ lw_tbl := List.mem_append_right _ (List.mem_of_getElem? (i := 166) rfl)
set_option maxRecDepth 20000 in
theorem gt_155 : ((Jvm.Cond.soleField "LoanDesk$Terms" "months") : Cond) ∈ lw_tbl := List.mem_append_right _ (List.mem_of_getElem? (i := 167) rfl)
set_option maxRecDepth 20000 in
theorem gt_156 : (.laysFinal RT "LoanDesk$Terms" "rule" "I" : Cond) ∈ lw_tbl := List.mem_append_right _ (List.mem_of_getElem? (i := 168) rfl)
set_option maxRecDepth 20000 in
theorem gt_157 : ((Jvm.Cond.soleField "LoanDesk$Terms" "rule") : Cond) ∈ lw_tbl := List.mem_append_right _ (List.mem_of_getElem? (i := 169) rfl)
set_option maxRecDepth 20000 in
theorem gt_158 : (.laysFinal RT "LoanDesk$Terms" "rounding" "I" : Cond) ∈ lw_tbl := List.mem_append_right _ (List.mem_of_getElem? (i := 170) rfl)
set_option maxRecDepth 20000 in
theorem gt_159 : ((Jvm.Cond.soleField "LoanDesk$Terms" "rounding") : Cond) ∈ lw_tbl := List.mem_append_right _ (List.mem_of_getElem? (i := 171) rfl)
theorem gtc_3 : ∀ w ∈ GW_3, w ∈ lw_tbl := List.forall_mem_cons.mpr ⟨gt_120, List.forall_mem_cons.mpr ⟨gt_121, List.forall_mem_cons.mpr ⟨gt_122, List.forall_mem_cons.mpr ⟨gt_123, List.forall_mem_cons.mpr ⟨gt_124, List.forall_mem_cons.mpr ⟨gt_125, List.forall_mem_cons.mpr ⟨gt_126, List.forall_mem_cons.mpr ⟨gt_127, List.forall_mem_cons.mpr ⟨gt_128, List.forall_mem_cons.mpr ⟨gt_129, List.forall_mem_cons.mpr ⟨gt_130, List.forall_mem_cons.mpr ⟨gt_131, List.forall_mem_cons.mpr ⟨gt_132, List.forall_mem_cons.mpr ⟨gt_133, List.forall_mem_cons.mpr ⟨gt_134, List.forall_mem_cons.mpr ⟨gt_135, List.forall_mem_cons.mpr ⟨gt_136, List.forall_mem_cons.mpr ⟨gt_137, List.forall_mem_cons.mpr ⟨gt_138, List.forall_mem_cons.mpr ⟨gt_139, List.forall_mem_cons.mpr ⟨gt_140, List.forall_mem_cons.mpr ⟨gt_141, List.forall_mem_cons.mpr ⟨gt_142, List.forall_mem_cons.mpr ⟨gt_143, List.forall_mem_cons.mpr ⟨gt_144, List.forall_mem_cons.mpr ⟨gt_145, List.forall_mem_cons.mpr ⟨gt_146, List.forall_mem_cons.mpr ⟨gt_147, List.forall_mem_cons.mpr ⟨gt_148, List.forall_mem_cons.mpr ⟨gt_149, List.forall_mem_cons.mpr ⟨gt_150, List.forall_mem_cons.mpr ⟨gt_151, List.forall_mem_cons.mpr ⟨gt_152, List.forall_mem_cons.mpr ⟨gt_153, List.forall_mem_cons.mpr ⟨gt_154, List.forall_mem_cons.mpr ⟨gt_155, List.forall_mem_cons.mpr ⟨gt_156, List.forall_mem_cons.mpr ⟨gt_157, List.forall_mem_cons.mpr ⟨gt_158, List.forall_mem_cons.mpr ⟨gt_159, fun _ h => absurd h List.not_mem_nil⟩⟩⟩⟩⟩⟩⟩⟩⟩⟩⟩⟩⟩⟩⟩⟩⟩⟩⟩⟩⟩⟩⟩⟩⟩⟩⟩⟩⟩⟩⟩⟩⟩⟩⟩⟩⟩⟩⟩⟩
set_option maxRecDepth 20000 in
theorem gt_160 : (.laysFinal RT "LoanDesk$Terms" "steady" "Z" : Cond) ∈ lw_tbl := List.mem_append_right _ (List.mem_of_getElem? (i := 172) rfl)
set_option maxRecDepth 20000 in
theorem gt_161 : ((Jvm.Cond.soleField "LoanDesk$Terms" "steady") : Cond) ∈ lw_tbl := List.mem_append_right _ (List.mem_of_getElem? (i := 173) rfl)
set_option maxRecDepth 20000 in
theorem gt_162 : (.laysFinal RT "LoanDesk$Terms" "monthOpened" "I" : Cond) ∈ lw_tbl := List.mem_append_right _ (List.mem_of_getElem? (i := 174) rfl)
set_option maxRecDepth 20000 in
theorem gt_163 : ((Jvm.Cond.soleField "LoanDesk$Terms" "monthOpened") : Cond) ∈ lw_tbl := List.mem_append_right _ (List.mem_of_getElem? (i := 175) rfl)
set_option maxRecDepth 20000 in
theorem gt_164 : (.laysFinal RT "LoanDesk$Terms" "numberInMonth" "I" : Cond) ∈ lw_tbl := List.mem_append_right _ (List.mem_of_getElem? (i := 176) rfl)
set_option maxRecDepth 20000 in
theorem gt_165 : ((Jvm.Cond.soleField "LoanDesk$Terms" "numberInMonth") : Cond) ∈ lw_tbl := List.mem_append_right _ (List.mem_of_getElem? (i := 177) rfl)
set_option maxRecDepth 20000 in
theorem gt_166 : ((Jvm.Cond.superclass "LoanDesk$Terms" "java/lang/Object") : Cond) ∈ lw_tbl := List.mem_append_right _ (List.mem_of_getElem? (i := 178) rfl)
set_option maxRecDepth 20000 in
theorem gt_167 : (.instantiable RN 13 : Cond) ∈ lw_tbl := List.mem_append_right _ (List.mem_of_getElem? (i := 179) rfl)
set_option maxRecDepth 20000 in
theorem gt_168 : (.methodLink RD 38 yN_init : Cond) ∈ lw_tbl := List.mem_append_right _ (List.mem_of_getElem? (i := 180) rfl)
set_option maxRecDepth 20000 in
theorem gt_169 : (.instanceMethod yN_init : Cond) ∈ lw_tbl := List.mem_append_right _ (List.mem_of_getElem? (i := 181) rfl)
set_option maxRecDepth 20000 in
theorem gt_170 : (.code yN_init cN_init 4 none : Cond) ∈ lw_tbl := List.mem_append_right _ (List.mem_of_getElem? (i := 182) rfl)
set_option maxRecDepth 20000 in
theorem gt_171 : (.methodLink RN 3 objectInit : Cond) ∈ lw_tbl := List.mem_append_right _ (List.mem_of_getElem? (i := 183) rfl)
set_option maxRecDepth 20000 in
theorem gt_172 : (.classLink RN 19 RA : Cond) ∈ lw_tbl := List.mem_append_right _ (List.mem_of_getElem? (i := 184) rfl)
set_option maxRecDepth 20000 in
theorem gt_173 : (.instantiable RA 3 : Cond) ∈ lw_tbl := List.mem_append_right _ (List.mem_of_getElem? (i := 185) rfl)
set_option maxRecDepth 20000 in
theorem gt_174 : (.instanceMethod yA_init : Cond) ∈ lw_tbl := List.mem_append_right _ (List.mem_of_getElem? (i := 187) rfl)
set_option maxRecDepth 20000 in
theorem gt_175 : (.code yA_init cA_init 1 none : Cond) ∈ lw_tbl := List.mem_append_right _ (List.mem_of_getElem? (i := 188) rfl)
set_option maxRecDepth 20000 in
theorem gt_176 : (.methodLink RA 1 objectInit : Cond) ∈ lw_tbl := List.mem_append_right _ (List.mem_of_getElem? (i := 189) rfl)
set_option maxRecDepth 20000 in
theorem gt_177 : (.fieldLink RA 22 "LoanDesk$Account" "balance" "I" : Cond) ∈ lw_tbl := List.mem_append_right _ (List.mem_of_getElem? (i := 190) rfl)
set_option maxRecDepth 20000 in
theorem gt_178 : (.fieldLink RN 136 "LoanDesk$Account" "balance" "I" : Cond) ∈ lw_tbl := List.mem_append_right _ (List.mem_of_getElem? (i := 191) rfl)
set_option maxRecDepth 20000 in
theorem gt_179 : (.fieldLink RD 104 "LoanDesk$Account" "balance" "I" : Cond) ∈ lw_tbl := List.mem_append_right _ (List.mem_of_getElem? (i := 192) rfl)
set_option maxRecDepth 20000 in
theorem gt_180 : (.fieldLink RA 19 "LoanDesk$Account" "deposit" "I" : Cond) ∈ lw_tbl := List.mem_append_right _ (List.mem_of_getElem? (i := 193) rfl)
set_option maxRecDepth 20000 in
theorem gt_181 : (.fieldLink RN 111 "LoanDesk$Account" "deposit" "I" : Cond) ∈ lw_tbl := List.mem_append_right _ (List.mem_of_getElem? (i := 194) rfl)
set_option maxRecDepth 20000 in
theorem gt_182 : (.fieldLink RD 107 "LoanDesk$Account" "deposit" "I" : Cond) ∈ lw_tbl := List.mem_append_right _ (List.mem_of_getElem? (i := 195) rfl)
set_option maxRecDepth 20000 in
theorem gt_183 : (.fieldLink RA 7 "LoanDesk$Account" "yearlyCharge" "I" : Cond) ∈ lw_tbl := List.mem_append_right _ (List.mem_of_getElem? (i := 196) rfl)
set_option maxRecDepth 20000 in
theorem gt_184 : (.lays RA "LoanDesk$Account" "balance" "I" : Cond) ∈ lw_tbl := List.mem_append_right _ (List.mem_of_getElem? (i := 197) rfl)
set_option maxRecDepth 20000 in
theorem gt_185 : ((Jvm.Cond.soleField "LoanDesk$Account" "balance") : Cond) ∈ lw_tbl := List.mem_append_right _ (List.mem_of_getElem? (i := 198) rfl)
set_option maxRecDepth 20000 in
theorem gt_186 : (.lays RA "LoanDesk$Account" "deposit" "I" : Cond) ∈ lw_tbl := List.mem_append_right _ (List.mem_of_getElem? (i := 199) rfl)
set_option maxRecDepth 20000 in
theorem gt_187 : ((Jvm.Cond.soleField "LoanDesk$Account" "deposit") : Cond) ∈ lw_tbl := List.mem_append_right _ (List.mem_of_getElem? (i := 200) rfl)
set_option maxRecDepth 20000 in
theorem gt_188 : (.lays RA "LoanDesk$Account" "yearlyCharge" "I" : Cond) ∈ lw_tbl := List.mem_append_right _ (List.mem_of_getElem? (i := 201) rfl)
set_option maxRecDepth 20000 in
theorem gt_189 : ((Jvm.Cond.soleField "LoanDesk$Account" "yearlyCharge") : Cond) ∈ lw_tbl := List.mem_append_right _ (List.mem_of_getElem? (i := 202) rfl)
set_option maxRecDepth 20000 in
theorem gt_190 : ((Jvm.Cond.superclass "LoanDesk$Account" "java/lang/Object") : Cond) ∈ lw_tbl := List.mem_append_right _ (List.mem_of_getElem? (i := 203) rfl)
set_option maxRecDepth 20000 in
theorem gt_191 : (.classLink RN 26 RB : Cond) ∈ lw_tbl := List.mem_append_right _ (List.mem_of_getElem? (i := 204) rfl)
set_option maxRecDepth 20000 in
theorem gt_192 : (.instantiable RB 2 : Cond) ∈ lw_tbl := List.mem_append_right _ (List.mem_of_getElem? (i := 205) rfl)
set_option maxRecDepth 20000 in
theorem gt_193 : (.instanceMethod yB_init : Cond) ∈ lw_tbl := List.mem_append_right _ (List.mem_of_getElem? (i := 207) rfl)
set_option maxRecDepth 20000 in
theorem gt_194 : (.code yB_init cB_init 1 none : Cond) ∈ lw_tbl := List.mem_append_right _ (List.mem_of_getElem? (i := 208) rfl)
set_option maxRecDepth 20000 in
theorem gt_195 : (.methodLink RB 1 objectInit : Cond) ∈ lw_tbl := List.mem_append_right _ (List.mem_of_getElem? (i := 209) rfl)
set_option maxRecDepth 20000 in
theorem gt_196 : (.fieldLink RB 9 "LoanDesk$BillBook" "entries" "[I" : Cond) ∈ lw_tbl := List.mem_append_right _ (List.mem_of_getElem? (i := 210) rfl)
set_option maxRecDepth 20000 in
theorem gt_197 : (.fieldLink RD 122 "LoanDesk$BillBook" "entries" "[I" : Cond) ∈ lw_tbl := List.mem_append_right _ (List.mem_of_getElem? (i := 211) rfl)
set_option maxRecDepth 20000 in
theorem gt_198 : (.fieldLink RB 13 "LoanDesk$BillBook" "count" "I" : Cond) ∈ lw_tbl := List.mem_append_right _ (List.mem_of_getElem? (i := 212) rfl)
set_option maxRecDepth 20000 in
theorem gt_199 : (.fieldLink RD 114 "LoanDesk$BillBook" "count" "I" : Cond) ∈ lw_tbl := List.mem_append_right _ (List.mem_of_getElem? (i := 213) rfl)
theorem gtc_4 : ∀ w ∈ GW_4, w ∈ lw_tbl := List.forall_mem_cons.mpr ⟨gt_160, List.forall_mem_cons.mpr ⟨gt_161, List.forall_mem_cons.mpr ⟨gt_162, List.forall_mem_cons.mpr ⟨gt_163, List.forall_mem_cons.mpr ⟨gt_164, List.forall_mem_cons.mpr ⟨gt_165, List.forall_mem_cons.mpr ⟨gt_166, List.forall_mem_cons.mpr ⟨gt_167, List.forall_mem_cons.mpr ⟨gt_168, List.forall_mem_cons.mpr ⟨gt_169, List.forall_mem_cons.mpr ⟨gt_170, List.forall_mem_cons.mpr ⟨gt_171, List.forall_mem_cons.mpr ⟨gt_172, List.forall_mem_cons.mpr ⟨gt_173, List.forall_mem_cons.mpr ⟨gt_174, List.forall_mem_cons.mpr ⟨gt_175, List.forall_mem_cons.mpr ⟨gt_176, List.forall_mem_cons.mpr ⟨gt_177, List.forall_mem_cons.mpr ⟨gt_178, List.forall_mem_cons.mpr ⟨gt_179, List.forall_mem_cons.mpr ⟨gt_180, List.forall_mem_cons.mpr ⟨gt_181, List.forall_mem_cons.mpr ⟨gt_182, List.forall_mem_cons.mpr ⟨gt_183, List.forall_mem_cons.mpr ⟨gt_184, List.forall_mem_cons.mpr ⟨gt_185, List.forall_mem_cons.mpr ⟨gt_186, List.forall_mem_cons.mpr ⟨gt_187, List.forall_mem_cons.mpr ⟨gt_188, List.forall_mem_cons.mpr ⟨gt_189, List.forall_mem_cons.mpr ⟨gt_190, List.forall_mem_cons.mpr ⟨gt_191, List.forall_mem_cons.mpr ⟨gt_192, List.forall_mem_cons.mpr ⟨gt_193, List.forall_mem_cons.mpr ⟨gt_194, List.forall_mem_cons.mpr ⟨gt_195, List.forall_mem_cons.mpr ⟨gt_196, List.forall_mem_cons.mpr ⟨gt_197, List.forall_mem_cons.mpr ⟨gt_198, List.forall_mem_cons.mpr ⟨gt_199, fun _ h => absurd h List.not_mem_nil⟩⟩⟩⟩⟩⟩⟩⟩⟩⟩⟩⟩⟩⟩⟩⟩⟩⟩⟩⟩⟩⟩⟩⟩⟩⟩⟩⟩⟩⟩⟩⟩⟩⟩⟩⟩⟩⟩⟩⟩
set_option maxRecDepth 20000 in
theorem gt_200 : (.laysFinal RB "LoanDesk$BillBook" "entries" "[I" : Cond) ∈ lw_tbl := List.mem_append_right _ (List.mem_of_getElem? (i := 214) rfl)
set_option maxRecDepth 20000 in
theorem gt_201 : ((Jvm.Cond.soleField "LoanDesk$BillBook" "entries") : Cond) ∈ lw_tbl := List.mem_append_right _ (List.mem_of_getElem? (i := 215) rfl)
set_option maxRecDepth 20000 in
theorem gt_202 : (.lays RB "LoanDesk$BillBook" "count" "I" : Cond) ∈ lw_tbl := List.mem_append_right _ (List.mem_of_getElem? (i := 216) rfl)
set_option maxRecDepth 20000 in
theorem gt_203 : ((Jvm.Cond.soleField "LoanDesk$BillBook" "count") : Cond) ∈ lw_tbl := List.mem_append_right _ (List.mem_of_getElem? (i := 217) rfl)
set_option maxRecDepth 20000 in
theorem gt_204 : ((Jvm.Cond.superclass "LoanDesk$BillBook" "java/lang/Object") : Cond) ∈ lw_tbl := List.mem_append_right _ (List.mem_of_getElem? (i := 218) rfl)
set_option maxRecDepth 20000 in
theorem gt_205 : (.arrayClass .int : Cond) ∈ lw_tbl := List.mem_append_right _ (List.mem_of_getElem? (i := 219) rfl)
set_option maxRecDepth 20000 in
theorem gt_206 : (.methodLink RN 43 yT_dueDay : Cond) ∈ lw_tbl := List.mem_append_right _ (List.mem_of_getElem? (i := 220) rfl)
set_option maxRecDepth 20000 in
theorem gt_207 : (.instanceMethod yT_dueDay : Cond) ∈ lw_tbl := List.mem_append_right _ (List.mem_of_getElem? (i := 221) rfl)
set_option maxRecDepth 20000 in
theorem gt_208 : (.selects RT yT_dueDay yT_dueDay : Cond) ∈ lw_tbl := List.mem_append_right _ (List.mem_of_getElem? (i := 222) rfl)
set_option maxRecDepth 20000 in
theorem gt_209 : (.code yT_dueDay cT_dueDay 4 (some .int) : Cond) ∈ lw_tbl := List.mem_append_right _ (List.mem_of_getElem? (i := 223) rfl)
set_option maxRecDepth 20000 in
theorem gt_210 : (.methodLink RT 40 yY_firstDayOf : Cond) ∈ lw_tbl := List.mem_append_right _ (List.mem_of_getElem? (i := 224) rfl)
set_option maxRecDepth 20000 in
theorem gt_211 : (.methodLink RT 43 Lib.Math.min.name : Cond) ∈ lw_tbl := List.mem_append_right _ (List.mem_of_getElem? (i := 225) rfl)
set_option maxRecDepth 20000 in
theorem gt_212 : (.static Lib.Math.min.name : Cond) ∈ lw_tbl := List.mem_append_right _ (List.mem_of_getElem? (i := 226) rfl)
set_option maxRecDepth 20000 in
theorem gt_213 : (.code Lib.Math.min.name Lib.Math.min.code 2 (some .int) : Cond) ∈ lw_tbl := List.mem_append_right _ (List.mem_of_getElem? (i := 227) rfl)
set_option maxRecDepth 20000 in
theorem gt_214 : (.fieldLink RN 9 "LoanDesk$Loan" "terms" "LLoanDesk$Terms;" : Cond) ∈ lw_tbl := List.mem_append_right _ (List.mem_of_getElem? (i := 228) rfl)
set_option maxRecDepth 20000 in
theorem gt_215 : (.fieldLink RD 85 "LoanDesk$Loan" "terms" "LLoanDesk$Terms;" : Cond) ∈ lw_tbl := List.mem_append_right _ (List.mem_of_getElem? (i := 229) rfl)
set_option maxRecDepth 20000 in
theorem gt_216 : (.fieldLink RN 22 "LoanDesk$Loan" "account" "LLoanDesk$Account;" : Cond) ∈ lw_tbl := List.mem_append_right _ (List.mem_of_getElem? (i := 230) rfl)
set_option maxRecDepth 20000 in
theorem gt_217 : (.fieldLink RD 50 "LoanDesk$Loan" "account" "LLoanDesk$Account;" : Cond) ∈ lw_tbl := List.mem_append_right _ (List.mem_of_getElem? (i := 231) rfl)
set_option maxRecDepth 20000 in
theorem gt_218 : (.fieldLink RN 29 "LoanDesk$Loan" "billBook" "LLoanDesk$BillBook;" : Cond) ∈ lw_tbl := List.mem_append_right _ (List.mem_of_getElem? (i := 232) rfl)
set_option maxRecDepth 20000 in
theorem gt_219 : (.fieldLink RD 110 "LoanDesk$Loan" "billBook" "LLoanDesk$BillBook;" : Cond) ∈ lw_tbl := List.mem_append_right _ (List.mem_of_getElem? (i := 233) rfl)
set_option maxRecDepth 20000 in
theorem gt_220 : (.fieldLink RN 33 "LoanDesk$Loan" "owed" "[I" : Cond) ∈ lw_tbl := List.mem_append_right _ (List.mem_of_getElem? (i := 234) rfl)
set_option maxRecDepth 20000 in
theorem gt_221 : (.fieldLink RD 101 "LoanDesk$Loan" "owed" "[I" : Cond) ∈ lw_tbl := List.mem_append_right _ (List.mem_of_getElem? (i := 235) rfl)
set_option maxRecDepth 20000 in
theorem gt_222 : (.fieldLink RN 37 "LoanDesk$Loan" "parts" "[I" : Cond) ∈ lw_tbl := List.mem_append_right _ (List.mem_of_getElem? (i := 236) rfl)
set_option maxRecDepth 20000 in
theorem gt_223 : (.fieldLink RD 72 "LoanDesk$Loan" "parts" "[I" : Cond) ∈ lw_tbl := List.mem_append_right _ (List.mem_of_getElem? (i := 237) rfl)
set_option maxRecDepth 20000 in
theorem gt_224 : (.fieldLink RD 68 "LoanDesk$Loan" "wasPaid" "Z" : Cond) ∈ lw_tbl := List.mem_append_right _ (List.mem_of_getElem? (i := 238) rfl)
set_option maxRecDepth 20000 in
theorem gt_225 : (.fieldLink RN 139 "LoanDesk$Loan" "wasPaid" "Z" : Cond) ∈ lw_tbl := List.mem_append_right _ (List.mem_of_getElem? (i := 239) rfl)
set_option maxRecDepth 20000 in
theorem gt_226 : (.fieldLink RN 15 "LoanDesk$Loan" "principal" "I" : Cond) ∈ lw_tbl := List.mem_append_right _ (List.mem_of_getElem? (i := 240) rfl)
set_option maxRecDepth 20000 in
theorem gt_227 : (.fieldLink RD 92 "LoanDesk$Loan" "principal" "I" : Cond) ∈ lw_tbl := List.mem_append_right _ (List.mem_of_getElem? (i := 241) rfl)
set_option maxRecDepth 20000 in
theorem gt_228 : (.fieldLink RN 121 "LoanDesk$Loan" "level" "I" : Cond) ∈ lw_tbl := List.mem_append_right _ (List.mem_of_getElem? (i := 242) rfl)
set_option maxRecDepth 20000 in
theorem gt_229 : (.fieldLink RD 95 "LoanDesk$Loan" "level" "I" : Cond) ∈ lw_tbl := List.mem_append_right _ (List.mem_of_getElem? (i := 243) rfl)
set_option maxRecDepth 20000 in
theorem gt_230 : (.fieldLink RN 64 "LoanDesk$Loan" "accrued" "I" : Cond) ∈ lw_tbl := List.mem_append_right _ (List.mem_of_getElem? (i := 244) rfl)
set_option maxRecDepth 20000 in
theorem gt_231 : (.fieldLink RN 40 "LoanDesk$Loan" "accruedUpTo" "I" : Cond) ∈ lw_tbl := List.mem_append_right _ (List.mem_of_getElem? (i := 245) rfl)
set_option maxRecDepth 20000 in
theorem gt_232 : (.fieldLink RN 89 "LoanDesk$Loan" "dueDaysPassed" "I" : Cond) ∈ lw_tbl := List.mem_append_right _ (List.mem_of_getElem? (i := 246) rfl)
set_option maxRecDepth 20000 in
theorem gt_233 : (.fieldLink RN 49 "LoanDesk$Loan" "nextDueDay" "I" : Cond) ∈ lw_tbl := List.mem_append_right _ (List.mem_of_getElem? (i := 247) rfl)
set_option maxRecDepth 20000 in
theorem gt_234 : (.fieldLink RN 52 "LoanDesk$Loan" "spanTops" "[I" : Cond) ∈ lw_tbl := List.mem_append_right _ (List.mem_of_getElem? (i := 248) rfl)
set_option maxRecDepth 20000 in
theorem gt_235 : (.laysFinal RN "LoanDesk$Loan" "terms" "LLoanDesk$Terms;" : Cond) ∈ lw_tbl := List.mem_append_right _ (List.mem_of_getElem? (i := 249) rfl)
set_option maxRecDepth 20000 in
theorem gt_236 : ((Jvm.Cond.soleField "LoanDesk$Loan" "terms") : Cond) ∈ lw_tbl := List.mem_append_right _ (List.mem_of_getElem? (i := 250) rfl)
set_option maxRecDepth 20000 in
theorem gt_237 : (.laysFinal RN "LoanDesk$Loan" "account" "LLoanDesk$Account;" : Cond) ∈ lw_tbl := List.mem_append_right _ (List.mem_of_getElem? (i := 251) rfl)
set_option maxRecDepth 20000 in
theorem gt_238 : ((Jvm.Cond.soleField "LoanDesk$Loan" "account") : Cond) ∈ lw_tbl := List.mem_append_right _ (List.mem_of_getElem? (i := 252) rfl)
set_option maxRecDepth 20000 in
theorem gt_239 : (.laysFinal RN "LoanDesk$Loan" "billBook" "LLoanDesk$BillBook;" : Cond) ∈ lw_tbl := List.mem_append_right _ (List.mem_of_getElem? (i := 253) rfl)
theorem gtc_5 : ∀ w ∈ GW_5, w ∈ lw_tbl := List.forall_mem_cons.mpr ⟨gt_200, List.forall_mem_cons.mpr ⟨gt_201, List.forall_mem_cons.mpr ⟨gt_202, List.forall_mem_cons.mpr ⟨gt_203, List.forall_mem_cons.mpr ⟨gt_204, List.forall_mem_cons.mpr ⟨gt_205, List.forall_mem_cons.mpr ⟨gt_206, List.forall_mem_cons.mpr ⟨gt_207, List.forall_mem_cons.mpr ⟨gt_208, List.forall_mem_cons.mpr ⟨gt_209, List.forall_mem_cons.mpr ⟨gt_210, List.forall_mem_cons.mpr ⟨gt_211, List.forall_mem_cons.mpr ⟨gt_212, List.forall_mem_cons.mpr ⟨gt_213, List.forall_mem_cons.mpr ⟨gt_214, List.forall_mem_cons.mpr ⟨gt_215, List.forall_mem_cons.mpr ⟨gt_216, List.forall_mem_cons.mpr ⟨gt_217, List.forall_mem_cons.mpr ⟨gt_218, List.forall_mem_cons.mpr ⟨gt_219, List.forall_mem_cons.mpr ⟨gt_220, List.forall_mem_cons.mpr ⟨gt_221, List.forall_mem_cons.mpr ⟨gt_222, List.forall_mem_cons.mpr ⟨gt_223, List.forall_mem_cons.mpr ⟨gt_224, List.forall_mem_cons.mpr ⟨gt_225, List.forall_mem_cons.mpr ⟨gt_226, List.forall_mem_cons.mpr ⟨gt_227, List.forall_mem_cons.mpr ⟨gt_228, List.forall_mem_cons.mpr ⟨gt_229, List.forall_mem_cons.mpr ⟨gt_230, List.forall_mem_cons.mpr ⟨gt_231, List.forall_mem_cons.mpr ⟨gt_232, List.forall_mem_cons.mpr ⟨gt_233, List.forall_mem_cons.mpr ⟨gt_234, List.forall_mem_cons.mpr ⟨gt_235, List.forall_mem_cons.mpr ⟨gt_236, List.forall_mem_cons.mpr ⟨gt_237, List.forall_mem_cons.mpr ⟨gt_238, List.forall_mem_cons.mpr ⟨gt_239, fun _ h => absurd h List.not_mem_nil⟩⟩⟩⟩⟩⟩⟩⟩⟩⟩⟩⟩⟩⟩⟩⟩⟩⟩⟩⟩⟩⟩⟩⟩⟩⟩⟩⟩⟩⟩⟩⟩⟩⟩⟩⟩⟩⟩⟩⟩
set_option maxRecDepth 20000 in
theorem gt_240 : ((Jvm.Cond.soleField "LoanDesk$Loan" "billBook") : Cond) ∈ lw_tbl := List.mem_append_right _ (List.mem_of_getElem? (i := 254) rfl)
set_option maxRecDepth 20000 in
theorem gt_241 : (.laysFinal RN "LoanDesk$Loan" "owed" "[I" : Cond) ∈ lw_tbl := List.mem_append_right _ (List.mem_of_getElem? (i := 255) rfl)
set_option maxRecDepth 20000 in
theorem gt_242 : ((Jvm.Cond.soleField "LoanDesk$Loan" "owed") : Cond) ∈ lw_tbl := List.mem_append_right _ (List.mem_of_getElem? (i := 256) rfl)
set_option maxRecDepth 20000 in
theorem gt_243 : (.laysFinal RN "LoanDesk$Loan" "parts" "[I" : Cond) ∈ lw_tbl := List.mem_append_right _ (List.mem_of_getElem? (i := 257) rfl)
set_option maxRecDepth 20000 in
theorem gt_244 : ((Jvm.Cond.soleField "LoanDesk$Loan" "parts") : Cond) ∈ lw_tbl := List.mem_append_right _ (List.mem_of_getElem? (i := 258) rfl)
set_option maxRecDepth 20000 in
theorem gt_245 : (.lays RN "LoanDesk$Loan" "wasPaid" "Z" : Cond) ∈ lw_tbl := List.mem_append_right _ (List.mem_of_getElem? (i := 259) rfl)
set_option maxRecDepth 20000 in
theorem gt_246 : ((Jvm.Cond.soleField "LoanDesk$Loan" "wasPaid") : Cond) ∈ lw_tbl := List.mem_append_right _ (List.mem_of_getElem? (i := 260) rfl)
set_option maxRecDepth 20000 in
theorem gt_247 : (.lays RN "LoanDesk$Loan" "principal" "I" : Cond) ∈ lw_tbl := List.mem_append_right _ (List.mem_of_getElem? (i := 261) rfl)
set_option maxRecDepth 20000 in
theorem gt_248 : ((Jvm.Cond.soleField "LoanDesk$Loan" "principal") : Cond) ∈ lw_tbl := List.mem_append_right _ (List.mem_of_getElem? (i := 262) rfl)
set_option maxRecDepth 20000 in
theorem gt_249 : (.lays RN "LoanDesk$Loan" "level" "I" : Cond) ∈ lw_tbl := List.mem_append_right _ (List.mem_of_getElem? (i := 263) rfl)
set_option maxRecDepth 20000 in
theorem gt_250 : ((Jvm.Cond.soleField "LoanDesk$Loan" "level") : Cond) ∈ lw_tbl := List.mem_append_right _ (List.mem_of_getElem? (i := 264) rfl)
set_option maxRecDepth 20000 in
theorem gt_251 : (.lays RN "LoanDesk$Loan" "accrued" "I" : Cond) ∈ lw_tbl := List.mem_append_right _ (List.mem_of_getElem? (i := 265) rfl)
set_option maxRecDepth 20000 in
theorem gt_252 : ((Jvm.Cond.soleField "LoanDesk$Loan" "accrued") : Cond) ∈ lw_tbl := List.mem_append_right _ (List.mem_of_getElem? (i := 266) rfl)
set_option maxRecDepth 20000 in
theorem gt_253 : (.lays RN "LoanDesk$Loan" "accruedUpTo" "I" : Cond) ∈ lw_tbl := List.mem_append_right _ (List.mem_of_getElem? (i := 267) rfl)
set_option maxRecDepth 20000 in
theorem gt_254 : ((Jvm.Cond.soleField "LoanDesk$Loan" "accruedUpTo") : Cond) ∈ lw_tbl := List.mem_append_right _ (List.mem_of_getElem? (i := 268) rfl)
set_option maxRecDepth 20000 in
theorem gt_255 : (.lays RN "LoanDesk$Loan" "dueDaysPassed" "I" : Cond) ∈ lw_tbl := List.mem_append_right _ (List.mem_of_getElem? (i := 269) rfl)
set_option maxRecDepth 20000 in
theorem gt_256 : ((Jvm.Cond.soleField "LoanDesk$Loan" "dueDaysPassed") : Cond) ∈ lw_tbl := List.mem_append_right _ (List.mem_of_getElem? (i := 270) rfl)
set_option maxRecDepth 20000 in
theorem gt_257 : (.lays RN "LoanDesk$Loan" "nextDueDay" "I" : Cond) ∈ lw_tbl := List.mem_append_right _ (List.mem_of_getElem? (i := 271) rfl)
set_option maxRecDepth 20000 in
theorem gt_258 : ((Jvm.Cond.soleField "LoanDesk$Loan" "nextDueDay") : Cond) ∈ lw_tbl := List.mem_append_right _ (List.mem_of_getElem? (i := 272) rfl)
set_option maxRecDepth 20000 in
theorem gt_259 : (.laysFinal RN "LoanDesk$Loan" "spanTops" "[I" : Cond) ∈ lw_tbl := List.mem_append_right _ (List.mem_of_getElem? (i := 273) rfl)
set_option maxRecDepth 20000 in
theorem gt_260 : ((Jvm.Cond.soleField "LoanDesk$Loan" "spanTops") : Cond) ∈ lw_tbl := List.mem_append_right _ (List.mem_of_getElem? (i := 274) rfl)
set_option maxRecDepth 20000 in
theorem gt_261 : ((Jvm.Cond.superclass "LoanDesk$Loan" "java/lang/Object") : Cond) ∈ lw_tbl := List.mem_append_right _ (List.mem_of_getElem? (i := 275) rfl)
set_option maxRecDepth 20000 in
theorem gt_262 : (.methodLink RD 41 yN_reckonLevel : Cond) ∈ lw_tbl := List.mem_append_right _ (List.mem_of_getElem? (i := 276) rfl)
set_option maxRecDepth 20000 in
theorem gt_263 : (.instanceMethod yN_reckonLevel : Cond) ∈ lw_tbl := List.mem_append_right _ (List.mem_of_getElem? (i := 277) rfl)
set_option maxRecDepth 20000 in
theorem gt_264 : (.selects RN yN_reckonLevel yN_reckonLevel : Cond) ∈ lw_tbl := List.mem_append_right _ (List.mem_of_getElem? (i := 278) rfl)
set_option maxRecDepth 20000 in
theorem gt_265 : (.code yN_reckonLevel cN_reckonLevel 4 none : Cond) ∈ lw_tbl := List.mem_append_right _ (List.mem_of_getElem? (i := 279) rfl)
set_option maxRecDepth 20000 in
theorem gt_266 : (.methodLink RN 149 yN_layOutSpans : Cond) ∈ lw_tbl := List.mem_append_right _ (List.mem_of_getElem? (i := 280) rfl)
set_option maxRecDepth 20000 in
theorem gt_267 : (.instanceMethod yN_layOutSpans : Cond) ∈ lw_tbl := List.mem_append_right _ (List.mem_of_getElem? (i := 282) rfl)
set_option maxRecDepth 20000 in
theorem gt_268 : (.code yN_layOutSpans cN_layOutSpans 6 (some .int) : Cond) ∈ lw_tbl := List.mem_append_right _ (List.mem_of_getElem? (i := 283) rfl)
set_option maxRecDepth 20000 in
theorem gt_269 : (.methodLink RN 58 yS_top : Cond) ∈ lw_tbl := List.mem_append_right _ (List.mem_of_getElem? (i := 284) rfl)
set_option maxRecDepth 20000 in
theorem gt_270 : (.static yS_top : Cond) ∈ lw_tbl := List.mem_append_right _ (List.mem_of_getElem? (i := 285) rfl)
set_option maxRecDepth 20000 in
theorem gt_271 : (.code yS_top cS_top 4 (some .int) : Cond) ∈ lw_tbl := List.mem_append_right _ (List.mem_of_getElem? (i := 286) rfl)
set_option maxRecDepth 20000 in
theorem gt_272 : (.methodLink RS 7 yY_thirties : Cond) ∈ lw_tbl := List.mem_append_right _ (List.mem_of_getElem? (i := 287) rfl)
set_option maxRecDepth 20000 in
theorem gt_273 : (.static yY_thirties : Cond) ∈ lw_tbl := List.mem_append_right _ (List.mem_of_getElem? (i := 288) rfl)
set_option maxRecDepth 20000 in
theorem gt_274 : (.code yY_thirties cY_thirties 3 (some .int) : Cond) ∈ lw_tbl := List.mem_append_right _ (List.mem_of_getElem? (i := 289) rfl)
set_option maxRecDepth 20000 in
theorem gt_275 : (.methodLink RY 16 Lib.Math.min.name : Cond) ∈ lw_tbl := List.mem_append_right _ (List.mem_of_getElem? (i := 290) rfl)
set_option maxRecDepth 20000 in
theorem gt_276 : (.methodLink RS 13 yY_inLongYears : Cond) ∈ lw_tbl := List.mem_append_right _ (List.mem_of_getElem? (i := 291) rfl)
set_option maxRecDepth 20000 in
theorem gt_277 : (.static yY_inLongYears : Cond) ∈ lw_tbl := List.mem_append_right _ (List.mem_of_getElem? (i := 292) rfl)
set_option maxRecDepth 20000 in
theorem gt_278 : (.code yY_inLongYears cY_inLongYears 1 (some .int) : Cond) ∈ lw_tbl := List.mem_append_right _ (List.mem_of_getElem? (i := 293) rfl)
set_option maxRecDepth 20000 in
theorem gt_279 : (.methodLink RN 152 yN_leastLevel : Cond) ∈ lw_tbl := List.mem_append_right _ (List.mem_of_getElem? (i := 294) rfl)
theorem gtc_6 : ∀ w ∈ GW_6, w ∈ lw_tbl := List.forall_mem_cons.mpr ⟨gt_240, List.forall_mem_cons.mpr ⟨gt_241, List.forall_mem_cons.mpr ⟨gt_242, List.forall_mem_cons.mpr ⟨gt_243, List.forall_mem_cons.mpr ⟨gt_244, List.forall_mem_cons.mpr ⟨gt_245, List.forall_mem_cons.mpr ⟨gt_246, List.forall_mem_cons.mpr ⟨gt_247, List.forall_mem_cons.mpr ⟨gt_248, List.forall_mem_cons.mpr ⟨gt_249, List.forall_mem_cons.mpr ⟨gt_250, List.forall_mem_cons.mpr ⟨gt_251, List.forall_mem_cons.mpr ⟨gt_252, List.forall_mem_cons.mpr ⟨gt_253, List.forall_mem_cons.mpr ⟨gt_254, List.forall_mem_cons.mpr ⟨gt_255, List.forall_mem_cons.mpr ⟨gt_256, List.forall_mem_cons.mpr ⟨gt_257, List.forall_mem_cons.mpr ⟨gt_258, List.forall_mem_cons.mpr ⟨gt_259, List.forall_mem_cons.mpr ⟨gt_260, List.forall_mem_cons.mpr ⟨gt_261, List.forall_mem_cons.mpr ⟨gt_262, List.forall_mem_cons.mpr ⟨gt_263, List.forall_mem_cons.mpr ⟨gt_264, List.forall_mem_cons.mpr ⟨gt_265, List.forall_mem_cons.mpr ⟨gt_266, List.forall_mem_cons.mpr ⟨gt_267, List.forall_mem_cons.mpr ⟨gt_268, List.forall_mem_cons.mpr ⟨gt_269, List.forall_mem_cons.mpr ⟨gt_270, List.forall_mem_cons.mpr ⟨gt_271, List.forall_mem_cons.mpr ⟨gt_272, List.forall_mem_cons.mpr ⟨gt_273, List.forall_mem_cons.mpr ⟨gt_274, List.forall_mem_cons.mpr ⟨gt_275, List.forall_mem_cons.mpr ⟨gt_276, List.forall_mem_cons.mpr ⟨gt_277, List.forall_mem_cons.mpr ⟨gt_278, List.forall_mem_cons.mpr ⟨gt_279, fun _ h => absurd h List.not_mem_nil⟩⟩⟩⟩⟩⟩⟩⟩⟩⟩⟩⟩⟩⟩⟩⟩⟩⟩⟩⟩⟩⟩⟩⟩⟩⟩⟩⟩⟩⟩⟩⟩⟩⟩⟩⟩⟩⟩⟩⟩
set_option maxRecDepth 20000 in
theorem gt_280 : (.instanceMethod yN_leastLevel : Cond) ∈ lw_tbl := List.mem_append_right _ (List.mem_of_getElem? (i := 296) rfl)
set_option maxRecDepth 20000 in
theorem gt_281 : (.code yN_leastLevel cN_leastLevel 7 (some .int) : Cond) ∈ lw_tbl := List.mem_append_right _ (List.mem_of_getElem? (i := 297) rfl)
set_option maxRecDepth 20000 in
theorem gt_282 : (.methodLink RN 73 yC_interestOn : Cond) ∈ lw_tbl := List.mem_append_right _ (List.mem_of_getElem? (i := 298) rfl)
set_option maxRecDepth 20000 in
theorem gt_283 : (.static yC_interestOn : Cond) ∈ lw_tbl := List.mem_append_right _ (List.mem_of_getElem? (i := 299) rfl)
set_option maxRecDepth 20000 in
theorem gt_284 : (.code yC_interestOn cC_interestOn 5 (some .int) : Cond) ∈ lw_tbl := List.mem_append_right _ (List.mem_of_getElem? (i := 300) rfl)
set_option maxRecDepth 20000 in
theorem gt_285 : (.constantLong RC 9 (100000) : Cond) ∈ lw_tbl := List.mem_append_right _ (List.mem_of_getElem? (i := 301) rfl)
set_option maxRecDepth 20000 in
theorem gt_286 : (.methodLink RC 11 yS_bottom : Cond) ∈ lw_tbl := List.mem_append_right _ (List.mem_of_getElem? (i := 302) rfl)
set_option maxRecDepth 20000 in
theorem gt_287 : (.static yS_bottom : Cond) ∈ lw_tbl := List.mem_append_right _ (List.mem_of_getElem? (i := 303) rfl)
set_option maxRecDepth 20000 in
theorem gt_288 : (.code yS_bottom cS_bottom 1 (some .int) : Cond) ∈ lw_tbl := List.mem_append_right _ (List.mem_of_getElem? (i := 304) rfl)
set_option maxRecDepth 20000 in
theorem gt_289 : (.constant RS 16 (133590) : Cond) ∈ lw_tbl := List.mem_append_right _ (List.mem_of_getElem? (i := 305) rfl)
set_option maxRecDepth 20000 in
theorem gt_290 : (.methodLink RC 17 yC_rounded : Cond) ∈ lw_tbl := List.mem_append_right _ (List.mem_of_getElem? (i := 306) rfl)
set_option maxRecDepth 20000 in
theorem gt_291 : (.static yC_rounded : Cond) ∈ lw_tbl := List.mem_append_right _ (List.mem_of_getElem? (i := 307) rfl)
set_option maxRecDepth 20000 in
theorem gt_292 : (.code yC_rounded cC_rounded 10 (some .int) : Cond) ∈ lw_tbl := List.mem_append_right _ (List.mem_of_getElem? (i := 308) rfl)
set_option maxRecDepth 20000 in
theorem gt_293 : (.constantLong RC 21 (2) : Cond) ∈ lw_tbl := List.mem_append_right _ (List.mem_of_getElem? (i := 309) rfl)
set_option maxRecDepth 20000 in
theorem gt_294 : (.methodLink RN 155 yN_leftInTheEnd : Cond) ∈ lw_tbl := List.mem_append_right _ (List.mem_of_getElem? (i := 310) rfl)
set_option maxRecDepth 20000 in
theorem gt_295 : (.instanceMethod yN_leftInTheEnd : Cond) ∈ lw_tbl := List.mem_append_right _ (List.mem_of_getElem? (i := 312) rfl)
set_option maxRecDepth 20000 in
theorem gt_296 : (.code yN_leftInTheEnd cN_leftInTheEnd 7 (some .int) : Cond) ∈ lw_tbl := List.mem_append_right _ (List.mem_of_getElem? (i := 313) rfl)
set_option maxRecDepth 20000 in
theorem gt_297 : (.methodLink RN 130 Lib.Math.min.name : Cond) ∈ lw_tbl := List.mem_append_right _ (List.mem_of_getElem? (i := 314) rfl)
set_option maxRecDepth 20000 in
theorem gt_298 : (.methodLink RL 82 yL_charge : Cond) ∈ lw_tbl := List.mem_append_right _ (List.mem_of_getElem? (i := 315) rfl)
set_option maxRecDepth 20000 in
theorem gt_299 : (.static yL_charge : Cond) ∈ lw_tbl := List.mem_append_right _ (List.mem_of_getElem? (i := 316) rfl)
set_option maxRecDepth 20000 in
theorem gt_300 : (.codeWith yL_charge cL_charge 4 (some .int) [(0, 6, 9, 21), (0, 6, 12, 13)] : Cond) ∈ lw_tbl := List.mem_append_right _ (List.mem_of_getElem? (i := 317) rfl)
set_option maxRecDepth 20000 in
theorem gt_301 : (.classLink RL 21 "java/lang/IndexOutOfBoundsException" : Cond) ∈ lw_tbl := List.mem_append_right _ (List.mem_of_getElem? (i := 318) rfl)
set_option maxRecDepth 20000 in
theorem gt_302 : (.methodLink RL 17 yD_charge : Cond) ∈ lw_tbl := List.mem_append_right _ (List.mem_of_getElem? (i := 319) rfl)
set_option maxRecDepth 20000 in
theorem gt_303 : (.instanceMethod yD_charge : Cond) ∈ lw_tbl := List.mem_append_right _ (List.mem_of_getElem? (i := 320) rfl)
set_option maxRecDepth 20000 in
theorem gt_304 : (.selects RD yD_charge yD_charge : Cond) ∈ lw_tbl := List.mem_append_right _ (List.mem_of_getElem? (i := 321) rfl)
set_option maxRecDepth 20000 in
theorem gt_305 : (.code yD_charge cD_charge 4 none : Cond) ∈ lw_tbl := List.mem_append_right _ (List.mem_of_getElem? (i := 322) rfl)
set_option maxRecDepth 20000 in
theorem gt_306 : (.methodLink RD 45 yD_find : Cond) ∈ lw_tbl := List.mem_append_right _ (List.mem_of_getElem? (i := 323) rfl)
set_option maxRecDepth 20000 in
theorem gt_307 : (.instanceMethod yD_find : Cond) ∈ lw_tbl := List.mem_append_right _ (List.mem_of_getElem? (i := 325) rfl)
set_option maxRecDepth 20000 in
theorem gt_308 : (.code yD_find cD_find 2 (some (.object "LoanDesk$Loan")) : Cond) ∈ lw_tbl := List.mem_append_right _ (List.mem_of_getElem? (i := 326) rfl)
set_option maxRecDepth 20000 in
theorem gt_309 : (.classLink RD 137 "java/lang/IndexOutOfBoundsException" : Cond) ∈ lw_tbl := List.mem_append_right _ (List.mem_of_getElem? (i := 327) rfl)
set_option maxRecDepth 20000 in
theorem gt_310 : (.instantiable "java/lang/IndexOutOfBoundsException" 6 : Cond) ∈ lw_tbl := List.mem_append_right _ (List.mem_of_getElem? (i := 328) rfl)
set_option maxRecDepth 20000 in
theorem gt_311 : (.selects "java/lang/IndexOutOfBoundsException" ⟨"java/lang/Throwable", "fillInStackTrace", "(I)Ljava/lang/Throwable;"⟩ ⟨"java/lang/Throwable", "fillInStackTrace", "(I)Ljava/lang/Throwable;"⟩ : Cond) ∈ lw_tbl := List.mem_append_right _ (List.mem_of_getElem? (i := 330) rfl)
set_option maxRecDepth 20000 in
theorem gt_312 : (.lays "java/lang/IndexOutOfBoundsException" "java/lang/Throwable" "cause" "Ljava/lang/Throwable;" : Cond) ∈ lw_tbl := List.mem_append_right _ (List.mem_of_getElem? (i := 331) rfl)
set_option maxRecDepth 20000 in
theorem gt_313 : (.lays "java/lang/IndexOutOfBoundsException" "java/lang/Throwable" "stackTrace" "[Ljava/lang/StackTraceElement;" : Cond) ∈ lw_tbl := List.mem_append_right _ (List.mem_of_getElem? (i := 332) rfl)
set_option maxRecDepth 20000 in
theorem gt_314 : (.lays "java/lang/IndexOutOfBoundsException" "java/lang/Throwable" "suppressedExceptions" "Ljava/util/List;" : Cond) ∈ lw_tbl := List.mem_append_right _ (List.mem_of_getElem? (i := 333) rfl)
set_option maxRecDepth 20000 in
theorem gt_315 : (.lays "java/lang/IndexOutOfBoundsException" "java/lang/Throwable" "detailMessage" "Ljava/lang/String;" : Cond) ∈ lw_tbl := List.mem_append_right _ (List.mem_of_getElem? (i := 334) rfl)
set_option maxRecDepth 20000 in
theorem gt_316 : (.lays "java/lang/IndexOutOfBoundsException" "java/lang/Throwable" "backtrace" "Ljava/lang/Object;" : Cond) ∈ lw_tbl := List.mem_append_right _ (List.mem_of_getElem? (i := 335) rfl)
set_option maxRecDepth 20000 in
theorem gt_317 : (.methodLink RD 139 ⟨"java/lang/IndexOutOfBoundsException", "<init>", "()V"⟩ : Cond) ∈ lw_tbl := List.mem_append_right _ (List.mem_of_getElem? (i := 336) rfl)
set_option maxRecDepth 20000 in
theorem gt_318 : (.instanceMethod ⟨"java/lang/IndexOutOfBoundsException", "<init>", "()V"⟩ : Cond) ∈ lw_tbl := List.mem_append_right _ (List.mem_of_getElem? (i := 337) rfl)
set_option maxRecDepth 20000 in
theorem gt_319 : ((Jvm.Cond.code ({ cls := "java/lang/IndexOutOfBoundsException", name := "<init>", desc := "()V" } : Jvm.MethodName) prog_14_method_1_code (1 : Nat) (Option.none : Option Jvm.ClassFile.FieldType)) : Cond) ∈ lw_tbl := List.mem_append_right _ (List.mem_of_getElem? (i := 338) rfl)
theorem gtc_7 : ∀ w ∈ GW_7, w ∈ lw_tbl := List.forall_mem_cons.mpr ⟨gt_280, List.forall_mem_cons.mpr ⟨gt_281, List.forall_mem_cons.mpr ⟨gt_282, List.forall_mem_cons.mpr ⟨gt_283, List.forall_mem_cons.mpr ⟨gt_284, List.forall_mem_cons.mpr ⟨gt_285, List.forall_mem_cons.mpr ⟨gt_286, List.forall_mem_cons.mpr ⟨gt_287, List.forall_mem_cons.mpr ⟨gt_288, List.forall_mem_cons.mpr ⟨gt_289, List.forall_mem_cons.mpr ⟨gt_290, List.forall_mem_cons.mpr ⟨gt_291, List.forall_mem_cons.mpr ⟨gt_292, List.forall_mem_cons.mpr ⟨gt_293, List.forall_mem_cons.mpr ⟨gt_294, List.forall_mem_cons.mpr ⟨gt_295, List.forall_mem_cons.mpr ⟨gt_296, List.forall_mem_cons.mpr ⟨gt_297, List.forall_mem_cons.mpr ⟨gt_298, List.forall_mem_cons.mpr ⟨gt_299, List.forall_mem_cons.mpr ⟨gt_300, List.forall_mem_cons.mpr ⟨gt_301, List.forall_mem_cons.mpr ⟨gt_302, List.forall_mem_cons.mpr ⟨gt_303, List.forall_mem_cons.mpr ⟨gt_304, List.forall_mem_cons.mpr ⟨gt_305, List.forall_mem_cons.mpr ⟨gt_306, List.forall_mem_cons.mpr ⟨gt_307, List.forall_mem_cons.mpr ⟨gt_308, List.forall_mem_cons.mpr ⟨gt_309, List.forall_mem_cons.mpr ⟨gt_310, List.forall_mem_cons.mpr ⟨gt_311, List.forall_mem_cons.mpr ⟨gt_312, List.forall_mem_cons.mpr ⟨gt_313, List.forall_mem_cons.mpr ⟨gt_314, List.forall_mem_cons.mpr ⟨gt_315, List.forall_mem_cons.mpr ⟨gt_316, List.forall_mem_cons.mpr ⟨gt_317, List.forall_mem_cons.mpr ⟨gt_318, List.forall_mem_cons.mpr ⟨gt_319, fun _ h => absurd h List.not_mem_nil⟩⟩⟩⟩⟩⟩⟩⟩⟩⟩⟩⟩⟩⟩⟩⟩⟩⟩⟩⟩⟩⟩⟩⟩⟩⟩⟩⟩⟩⟩⟩⟩⟩⟩⟩⟩⟩⟩⟩⟩
set_option maxRecDepth 20000 in
theorem gt_320 : (.methodLink "java/lang/IndexOutOfBoundsException" 1 ⟨"java/lang/RuntimeException", "<init>", "()V"⟩ : Cond) ∈ lw_tbl := List.mem_append_right _ (List.mem_of_getElem? (i := 339) rfl)
set_option maxRecDepth 20000 in
theorem gt_321 : (.lays "java/lang/IndexOutOfBoundsException" "java/lang/Throwable" "depth" "I" : Cond) ∈ lw_tbl := List.mem_append_right _ (List.mem_of_getElem? (i := 340) rfl)
set_option maxRecDepth 20000 in
theorem gt_322 : ((Jvm.Cond.superclass "java/lang/IndexOutOfBoundsException" "java/lang/RuntimeException") : Cond) ∈ lw_tbl := List.mem_append_right _ (List.mem_of_getElem? (i := 341) rfl)
set_option maxRecDepth 20000 in
theorem gt_323 : (.constant RD 49 (10000000) : Cond) ∈ lw_tbl := List.mem_append_right _ (List.mem_of_getElem? (i := 342) rfl)
set_option maxRecDepth 20000 in
theorem gt_324 : (.methodLink RD 54 yA_agreeOn : Cond) ∈ lw_tbl := List.mem_append_right _ (List.mem_of_getElem? (i := 343) rfl)
set_option maxRecDepth 20000 in
theorem gt_325 : (.instanceMethod yA_agreeOn : Cond) ∈ lw_tbl := List.mem_append_right _ (List.mem_of_getElem? (i := 344) rfl)
set_option maxRecDepth 20000 in
theorem gt_326 : (.selects RA yA_agreeOn yA_agreeOn : Cond) ∈ lw_tbl := List.mem_append_right _ (List.mem_of_getElem? (i := 345) rfl)
set_option maxRecDepth 20000 in
theorem gt_327 : (.code yA_agreeOn cA_agreeOn 2 none : Cond) ∈ lw_tbl := List.mem_append_right _ (List.mem_of_getElem? (i := 346) rfl)
set_option maxRecDepth 20000 in
theorem gt_328 : (.methodLink RA 13 yC_twelfth : Cond) ∈ lw_tbl := List.mem_append_right _ (List.mem_of_getElem? (i := 347) rfl)
set_option maxRecDepth 20000 in
theorem gt_329 : (.static yC_twelfth : Cond) ∈ lw_tbl := List.mem_append_right _ (List.mem_of_getElem? (i := 348) rfl)
set_option maxRecDepth 20000 in
theorem gt_330 : (.code yC_twelfth cC_twelfth 1 (some .int) : Cond) ∈ lw_tbl := List.mem_append_right _ (List.mem_of_getElem? (i := 349) rfl)
set_option maxRecDepth 20000 in
theorem gt_331 : (.methodLink RL 86 yL_advance : Cond) ∈ lw_tbl := List.mem_append_right _ (List.mem_of_getElem? (i := 350) rfl)
set_option maxRecDepth 20000 in
theorem gt_332 : (.static yL_advance : Cond) ∈ lw_tbl := List.mem_append_right _ (List.mem_of_getElem? (i := 351) rfl)
set_option maxRecDepth 20000 in
theorem gt_333 : (.codeWith yL_advance cL_advance 4 (some .int) [(0, 9, 12, 13), (0, 9, 15, 15)] : Cond) ∈ lw_tbl := List.mem_append_right _ (List.mem_of_getElem? (i := 352) rfl)
set_option maxRecDepth 20000 in
theorem gt_334 : (.methodLink RL 23 yD_advance : Cond) ∈ lw_tbl := List.mem_append_right _ (List.mem_of_getElem? (i := 353) rfl)
set_option maxRecDepth 20000 in
theorem gt_335 : (.instanceMethod yD_advance : Cond) ∈ lw_tbl := List.mem_append_right _ (List.mem_of_getElem? (i := 354) rfl)
set_option maxRecDepth 20000 in
theorem gt_336 : (.selects RD yD_advance yD_advance : Cond) ∈ lw_tbl := List.mem_append_right _ (List.mem_of_getElem? (i := 355) rfl)
set_option maxRecDepth 20000 in
theorem gt_337 : (.code yD_advance cD_advance 5 (some .int) : Cond) ∈ lw_tbl := List.mem_append_right _ (List.mem_of_getElem? (i := 356) rfl)
set_option maxRecDepth 20000 in
theorem gt_338 : (.methodLink RD 59 yN_beginDay : Cond) ∈ lw_tbl := List.mem_append_right _ (List.mem_of_getElem? (i := 357) rfl)
set_option maxRecDepth 20000 in
theorem gt_339 : (.instanceMethod yN_beginDay : Cond) ∈ lw_tbl := List.mem_append_right _ (List.mem_of_getElem? (i := 358) rfl)
set_option maxRecDepth 20000 in
theorem gt_340 : (.selects RN yN_beginDay yN_beginDay : Cond) ∈ lw_tbl := List.mem_append_right _ (List.mem_of_getElem? (i := 359) rfl)
set_option maxRecDepth 20000 in
theorem gt_341 : (.code yN_beginDay cN_beginDay 2 (some .boolean) : Cond) ∈ lw_tbl := List.mem_append_right _ (List.mem_of_getElem? (i := 360) rfl)
set_option maxRecDepth 20000 in
theorem gt_342 : (.methodLink RN 82 yB_latestIsOf : Cond) ∈ lw_tbl := List.mem_append_right _ (List.mem_of_getElem? (i := 361) rfl)
set_option maxRecDepth 20000 in
theorem gt_343 : (.instanceMethod yB_latestIsOf : Cond) ∈ lw_tbl := List.mem_append_right _ (List.mem_of_getElem? (i := 362) rfl)
set_option maxRecDepth 20000 in
theorem gt_344 : (.selects RB yB_latestIsOf yB_latestIsOf : Cond) ∈ lw_tbl := List.mem_append_right _ (List.mem_of_getElem? (i := 363) rfl)
set_option maxRecDepth 20000 in
theorem gt_345 : (.code yB_latestIsOf cB_latestIsOf 2 (some .boolean) : Cond) ∈ lw_tbl := List.mem_append_right _ (List.mem_of_getElem? (i := 364) rfl)
set_option maxRecDepth 20000 in
theorem gt_346 : (.methodLink RN 86 yN_addLateFee : Cond) ∈ lw_tbl := List.mem_append_right _ (List.mem_of_getElem? (i := 365) rfl)
set_option maxRecDepth 20000 in
theorem gt_347 : (.instanceMethod yN_addLateFee : Cond) ∈ lw_tbl := List.mem_append_right _ (List.mem_of_getElem? (i := 367) rfl)
set_option maxRecDepth 20000 in
theorem gt_348 : (.code yN_addLateFee cN_addLateFee 3 none : Cond) ∈ lw_tbl := List.mem_append_right _ (List.mem_of_getElem? (i := 368) rfl)
set_option maxRecDepth 20000 in
theorem gt_349 : (.constantLong RN 102 (20) : Cond) ∈ lw_tbl := List.mem_append_right _ (List.mem_of_getElem? (i := 369) rfl)
set_option maxRecDepth 20000 in
theorem gt_350 : (.methodLink RN 104 yC_rounded : Cond) ∈ lw_tbl := List.mem_append_right _ (List.mem_of_getElem? (i := 370) rfl)
set_option maxRecDepth 20000 in
theorem gt_351 : (.methodLink RN 92 yA_payCharge : Cond) ∈ lw_tbl := List.mem_append_right _ (List.mem_of_getElem? (i := 371) rfl)
set_option maxRecDepth 20000 in
theorem gt_352 : (.instanceMethod yA_payCharge : Cond) ∈ lw_tbl := List.mem_append_right _ (List.mem_of_getElem? (i := 372) rfl)
set_option maxRecDepth 20000 in
theorem gt_353 : (.selects RA yA_payCharge yA_payCharge : Cond) ∈ lw_tbl := List.mem_append_right _ (List.mem_of_getElem? (i := 373) rfl)
set_option maxRecDepth 20000 in
theorem gt_354 : (.code yA_payCharge cA_payCharge 1 none : Cond) ∈ lw_tbl := List.mem_append_right _ (List.mem_of_getElem? (i := 374) rfl)
set_option maxRecDepth 20000 in
theorem gt_355 : (.methodLink RA 25 Lib.Math.max.name : Cond) ∈ lw_tbl := List.mem_append_right _ (List.mem_of_getElem? (i := 375) rfl)
set_option maxRecDepth 20000 in
theorem gt_356 : (.static Lib.Math.max.name : Cond) ∈ lw_tbl := List.mem_append_right _ (List.mem_of_getElem? (i := 376) rfl)
set_option maxRecDepth 20000 in
theorem gt_357 : (.code Lib.Math.max.name Lib.Math.max.code 2 (some .int) : Cond) ∈ lw_tbl := List.mem_append_right _ (List.mem_of_getElem? (i := 377) rfl)
set_option maxRecDepth 20000 in
theorem gt_358 : (.methodLink RN 95 yN_accrue : Cond) ∈ lw_tbl := List.mem_append_right _ (List.mem_of_getElem? (i := 378) rfl)
set_option maxRecDepth 20000 in
theorem gt_359 : (.instanceMethod yN_accrue : Cond) ∈ lw_tbl := List.mem_append_right _ (List.mem_of_getElem? (i := 380) rfl)
theorem gtc_8 : ∀ w ∈ GW_8, w ∈ lw_tbl := List.forall_mem_cons.mpr ⟨gt_320, List.forall_mem_cons.mpr ⟨gt_321, List.forall_mem_cons.mpr ⟨gt_322, List.forall_mem_cons.mpr ⟨gt_323, List.forall_mem_cons.mpr ⟨gt_324, List.forall_mem_cons.mpr ⟨gt_325, List.forall_mem_cons.mpr ⟨gt_326, List.forall_mem_cons.mpr ⟨gt_327, List.forall_mem_cons.mpr ⟨gt_328, List.forall_mem_cons.mpr ⟨gt_329, List.forall_mem_cons.mpr ⟨gt_330, List.forall_mem_cons.mpr ⟨gt_331, List.forall_mem_cons.mpr ⟨gt_332, List.forall_mem_cons.mpr ⟨gt_333, List.forall_mem_cons.mpr ⟨gt_334, List.forall_mem_cons.mpr ⟨gt_335, List.forall_mem_cons.mpr ⟨gt_336, List.forall_mem_cons.mpr ⟨gt_337, List.forall_mem_cons.mpr ⟨gt_338, List.forall_mem_cons.mpr ⟨gt_339, List.forall_mem_cons.mpr ⟨gt_340, List.forall_mem_cons.mpr ⟨gt_341, List.forall_mem_cons.mpr ⟨gt_342, List.forall_mem_cons.mpr ⟨gt_343, List.forall_mem_cons.mpr ⟨gt_344, List.forall_mem_cons.mpr ⟨gt_345, List.forall_mem_cons.mpr ⟨gt_346, List.forall_mem_cons.mpr ⟨gt_347, List.forall_mem_cons.mpr ⟨gt_348, List.forall_mem_cons.mpr ⟨gt_349, List.forall_mem_cons.mpr ⟨gt_350, List.forall_mem_cons.mpr ⟨gt_351, List.forall_mem_cons.mpr ⟨gt_352, List.forall_mem_cons.mpr ⟨gt_353, List.forall_mem_cons.mpr ⟨gt_354, List.forall_mem_cons.mpr ⟨gt_355, List.forall_mem_cons.mpr ⟨gt_356, List.forall_mem_cons.mpr ⟨gt_357, List.forall_mem_cons.mpr ⟨gt_358, List.forall_mem_cons.mpr ⟨gt_359, fun _ h => absurd h List.not_mem_nil⟩⟩⟩⟩⟩⟩⟩⟩⟩⟩⟩⟩⟩⟩⟩⟩⟩⟩⟩⟩⟩⟩⟩⟩⟩⟩⟩⟩⟩⟩⟩⟩⟩⟩⟩⟩⟩⟩⟩⟩
set_option maxRecDepth 20000 in
theorem gt_360 : (.code yN_accrue cN_accrue 2 none : Cond) ∈ lw_tbl := List.mem_append_right _ (List.mem_of_getElem? (i := 381) rfl)
set_option maxRecDepth 20000 in
theorem gt_361 : (.methodLink RN 79 yN_accruedBy : Cond) ∈ lw_tbl := List.mem_append_right _ (List.mem_of_getElem? (i := 382) rfl)
set_option maxRecDepth 20000 in
theorem gt_362 : (.instanceMethod yN_accruedBy : Cond) ∈ lw_tbl := List.mem_append_right _ (List.mem_of_getElem? (i := 383) rfl)
set_option maxRecDepth 20000 in
theorem gt_363 : (.selects RN yN_accruedBy yN_accruedBy : Cond) ∈ lw_tbl := List.mem_append_right _ (List.mem_of_getElem? (i := 384) rfl)
set_option maxRecDepth 20000 in
theorem gt_364 : (.code yN_accruedBy cN_accruedBy 3 (some .int) : Cond) ∈ lw_tbl := List.mem_append_right _ (List.mem_of_getElem? (i := 385) rfl)
set_option maxRecDepth 20000 in
theorem gt_365 : (.methodLink RN 99 yN_makeBill : Cond) ∈ lw_tbl := List.mem_append_right _ (List.mem_of_getElem? (i := 386) rfl)
set_option maxRecDepth 20000 in
theorem gt_366 : (.instanceMethod yN_makeBill : Cond) ∈ lw_tbl := List.mem_append_right _ (List.mem_of_getElem? (i := 388) rfl)
set_option maxRecDepth 20000 in
theorem gt_367 : (.code yN_makeBill cN_makeBill 5 none : Cond) ∈ lw_tbl := List.mem_append_right _ (List.mem_of_getElem? (i := 389) rfl)
set_option maxRecDepth 20000 in
theorem gt_368 : (.methodLink RN 108 yN_partToBill : Cond) ∈ lw_tbl := List.mem_append_right _ (List.mem_of_getElem? (i := 390) rfl)
set_option maxRecDepth 20000 in
theorem gt_369 : (.instanceMethod yN_partToBill : Cond) ∈ lw_tbl := List.mem_append_right _ (List.mem_of_getElem? (i := 392) rfl)
set_option maxRecDepth 20000 in
theorem gt_370 : (.code yN_partToBill cN_partToBill 3 (some .int) : Cond) ∈ lw_tbl := List.mem_append_right _ (List.mem_of_getElem? (i := 393) rfl)
set_option maxRecDepth 20000 in
theorem gt_371 : (.methodLink RN 124 Lib.Math.max.name : Cond) ∈ lw_tbl := List.mem_append_right _ (List.mem_of_getElem? (i := 394) rfl)
set_option maxRecDepth 20000 in
theorem gt_372 : (.methodLink RN 114 yB_add : Cond) ∈ lw_tbl := List.mem_append_right _ (List.mem_of_getElem? (i := 395) rfl)
set_option maxRecDepth 20000 in
theorem gt_373 : (.instanceMethod yB_add : Cond) ∈ lw_tbl := List.mem_append_right _ (List.mem_of_getElem? (i := 396) rfl)
set_option maxRecDepth 20000 in
theorem gt_374 : (.selects RB yB_add yB_add : Cond) ∈ lw_tbl := List.mem_append_right _ (List.mem_of_getElem? (i := 397) rfl)
set_option maxRecDepth 20000 in
theorem gt_375 : (.code yB_add cB_add 7 none : Cond) ∈ lw_tbl := List.mem_append_right _ (List.mem_of_getElem? (i := 398) rfl)
set_option maxRecDepth 20000 in
theorem gt_376 : (.methodLink RL 90 yL_pay : Cond) ∈ lw_tbl := List.mem_append_right _ (List.mem_of_getElem? (i := 399) rfl)
set_option maxRecDepth 20000 in
theorem gt_377 : (.static yL_pay : Cond) ∈ lw_tbl := List.mem_append_right _ (List.mem_of_getElem? (i := 400) rfl)
set_option maxRecDepth 20000 in
theorem gt_378 : (.codeWith yL_pay cL_pay 5 (some .int) [(0, 10, 13, 21), (0, 10, 17, 13)] : Cond) ∈ lw_tbl := List.mem_append_right _ (List.mem_of_getElem? (i := 401) rfl)
set_option maxRecDepth 20000 in
theorem gt_379 : (.methodLink RL 27 yD_pay : Cond) ∈ lw_tbl := List.mem_append_right _ (List.mem_of_getElem? (i := 402) rfl)
set_option maxRecDepth 20000 in
theorem gt_380 : (.instanceMethod yD_pay : Cond) ∈ lw_tbl := List.mem_append_right _ (List.mem_of_getElem? (i := 403) rfl)
set_option maxRecDepth 20000 in
theorem gt_381 : (.selects RD yD_pay yD_pay : Cond) ∈ lw_tbl := List.mem_append_right _ (List.mem_of_getElem? (i := 404) rfl)
set_option maxRecDepth 20000 in
theorem gt_382 : (.code yD_pay cD_pay 4 (some .int) : Cond) ∈ lw_tbl := List.mem_append_right _ (List.mem_of_getElem? (i := 405) rfl)
set_option maxRecDepth 20000 in
theorem gt_383 : (.constant RD 63 (200000000) : Cond) ∈ lw_tbl := List.mem_append_right _ (List.mem_of_getElem? (i := 406) rfl)
set_option maxRecDepth 20000 in
theorem gt_384 : (.methodLink RD 64 yN_takePayment : Cond) ∈ lw_tbl := List.mem_append_right _ (List.mem_of_getElem? (i := 407) rfl)
set_option maxRecDepth 20000 in
theorem gt_385 : (.instanceMethod yN_takePayment : Cond) ∈ lw_tbl := List.mem_append_right _ (List.mem_of_getElem? (i := 408) rfl)
set_option maxRecDepth 20000 in
theorem gt_386 : (.selects RN yN_takePayment yN_takePayment : Cond) ∈ lw_tbl := List.mem_append_right _ (List.mem_of_getElem? (i := 409) rfl)
set_option maxRecDepth 20000 in
theorem gt_387 : (.code yN_takePayment cN_takePayment 5 (some .int) : Cond) ∈ lw_tbl := List.mem_append_right _ (List.mem_of_getElem? (i := 410) rfl)
set_option maxRecDepth 20000 in
theorem gt_388 : (.methodLink RN 133 yN_splitPayment : Cond) ∈ lw_tbl := List.mem_append_right _ (List.mem_of_getElem? (i := 411) rfl)
set_option maxRecDepth 20000 in
theorem gt_389 : (.instanceMethod yN_splitPayment : Cond) ∈ lw_tbl := List.mem_append_right _ (List.mem_of_getElem? (i := 413) rfl)
set_option maxRecDepth 20000 in
theorem gt_390 : (.code yN_splitPayment cN_splitPayment 4 none : Cond) ∈ lw_tbl := List.mem_append_right _ (List.mem_of_getElem? (i := 414) rfl)
set_option maxRecDepth 20000 in
theorem gt_391 : (.methodLink RN 146 yN_reckonLevel : Cond) ∈ lw_tbl := List.mem_append_right _ (List.mem_of_getElem? (i := 415) rfl)
set_option maxRecDepth 20000 in
theorem gt_392 : (.methodLink RL 94 yL_part : Cond) ∈ lw_tbl := List.mem_append_right _ (List.mem_of_getElem? (i := 416) rfl)
set_option maxRecDepth 20000 in
theorem gt_393 : (.static yL_part : Cond) ∈ lw_tbl := List.mem_append_right _ (List.mem_of_getElem? (i := 417) rfl)
set_option maxRecDepth 20000 in
theorem gt_394 : (.codeWith yL_part cL_part 5 (some .int) [(0, 10, 13, 21), (0, 10, 17, 13), (0, 10, 21, 15)] : Cond) ∈ lw_tbl := List.mem_append_right _ (List.mem_of_getElem? (i := 418) rfl)
set_option maxRecDepth 20000 in
theorem gt_395 : (.methodLink RL 31 yD_part : Cond) ∈ lw_tbl := List.mem_append_right _ (List.mem_of_getElem? (i := 419) rfl)
set_option maxRecDepth 20000 in
theorem gt_396 : (.instanceMethod yD_part : Cond) ∈ lw_tbl := List.mem_append_right _ (List.mem_of_getElem? (i := 420) rfl)
set_option maxRecDepth 20000 in
theorem gt_397 : (.selects RD yD_part yD_part : Cond) ∈ lw_tbl := List.mem_append_right _ (List.mem_of_getElem? (i := 421) rfl)
set_option maxRecDepth 20000 in
theorem gt_398 : (.code yD_part cD_part 4 (some .int) : Cond) ∈ lw_tbl := List.mem_append_right _ (List.mem_of_getElem? (i := 422) rfl)
set_option maxRecDepth 20000 in
theorem gt_399 : (.methodLink RL 101 yL_due : Cond) ∈ lw_tbl := List.mem_append_right _ (List.mem_of_getElem? (i := 423) rfl)
theorem gtc_9 : ∀ w ∈ GW_9, w ∈ lw_tbl := List.forall_mem_cons.mpr ⟨gt_360, List.forall_mem_cons.mpr ⟨gt_361, List.forall_mem_cons.mpr ⟨gt_362, List.forall_mem_cons.mpr ⟨gt_363, List.forall_mem_cons.mpr ⟨gt_364, List.forall_mem_cons.mpr ⟨gt_365, List.forall_mem_cons.mpr ⟨gt_366, List.forall_mem_cons.mpr ⟨gt_367, List.forall_mem_cons.mpr ⟨gt_368, List.forall_mem_cons.mpr ⟨gt_369, List.forall_mem_cons.mpr ⟨gt_370, List.forall_mem_cons.mpr ⟨gt_371, List.forall_mem_cons.mpr ⟨gt_372, List.forall_mem_cons.mpr ⟨gt_373, List.forall_mem_cons.mpr ⟨gt_374, List.forall_mem_cons.mpr ⟨gt_375, List.forall_mem_cons.mpr ⟨gt_376, List.forall_mem_cons.mpr ⟨gt_377, List.forall_mem_cons.mpr ⟨gt_378, List.forall_mem_cons.mpr ⟨gt_379, List.forall_mem_cons.mpr ⟨gt_380, List.forall_mem_cons.mpr ⟨gt_381, List.forall_mem_cons.mpr ⟨gt_382, List.forall_mem_cons.mpr ⟨gt_383, List.forall_mem_cons.mpr ⟨gt_384, List.forall_mem_cons.mpr ⟨gt_385, List.forall_mem_cons.mpr ⟨gt_386, List.forall_mem_cons.mpr ⟨gt_387, List.forall_mem_cons.mpr ⟨gt_388, List.forall_mem_cons.mpr ⟨gt_389, List.forall_mem_cons.mpr ⟨gt_390, List.forall_mem_cons.mpr ⟨gt_391, List.forall_mem_cons.mpr ⟨gt_392, List.forall_mem_cons.mpr ⟨gt_393, List.forall_mem_cons.mpr ⟨gt_394, List.forall_mem_cons.mpr ⟨gt_395, List.forall_mem_cons.mpr ⟨gt_396, List.forall_mem_cons.mpr ⟨gt_397, List.forall_mem_cons.mpr ⟨gt_398, List.forall_mem_cons.mpr ⟨gt_399, fun _ h => absurd h List.not_mem_nil⟩⟩⟩⟩⟩⟩⟩⟩⟩⟩⟩⟩⟩⟩⟩⟩⟩⟩⟩⟩⟩⟩⟩⟩⟩⟩⟩⟩⟩⟩⟩⟩⟩⟩⟩⟩⟩⟩⟩⟩
set_option maxRecDepth 20000 in
theorem gt_400 : (.static yL_due : Cond) ∈ lw_tbl := List.mem_append_right _ (List.mem_of_getElem? (i := 424) rfl)
set_option maxRecDepth 20000 in
theorem gt_401 : (.codeWith yL_due cL_due 5 (some .int) [(0, 10, 13, 21), (0, 10, 17, 13)] : Cond) ∈ lw_tbl := List.mem_append_right _ (List.mem_of_getElem? (i := 425) rfl)
set_option maxRecDepth 20000 in
theorem gt_402 : (.methodLink RL 34 yD_due : Cond) ∈ lw_tbl := List.mem_append_right _ (List.mem_of_getElem? (i := 426) rfl)
set_option maxRecDepth 20000 in
theorem gt_403 : (.instanceMethod yD_due : Cond) ∈ lw_tbl := List.mem_append_right _ (List.mem_of_getElem? (i := 427) rfl)
set_option maxRecDepth 20000 in
theorem gt_404 : (.selects RD yD_due yD_due : Cond) ∈ lw_tbl := List.mem_append_right _ (List.mem_of_getElem? (i := 428) rfl)
set_option maxRecDepth 20000 in
theorem gt_405 : (.code yD_due cD_due 4 (some .int) : Cond) ∈ lw_tbl := List.mem_append_right _ (List.mem_of_getElem? (i := 429) rfl)
set_option maxRecDepth 20000 in
theorem gt_406 : (.methodLink RD 89 yT_dueDay : Cond) ∈ lw_tbl := List.mem_append_right _ (List.mem_of_getElem? (i := 430) rfl)
set_option maxRecDepth 20000 in
theorem gt_407 : (.methodLink RL 104 yL_principal : Cond) ∈ lw_tbl := List.mem_append_right _ (List.mem_of_getElem? (i := 431) rfl)
set_option maxRecDepth 20000 in
theorem gt_408 : (.static yL_principal : Cond) ∈ lw_tbl := List.mem_append_right _ (List.mem_of_getElem? (i := 432) rfl)
set_option maxRecDepth 20000 in
theorem gt_409 : (.codeWith yL_principal cL_principal 4 (some .int) [(0, 9, 12, 21)] : Cond) ∈ lw_tbl := List.mem_append_right _ (List.mem_of_getElem? (i := 433) rfl)
set_option maxRecDepth 20000 in
theorem gt_410 : (.methodLink RL 37 yD_principal : Cond) ∈ lw_tbl := List.mem_append_right _ (List.mem_of_getElem? (i := 434) rfl)
set_option maxRecDepth 20000 in
theorem gt_411 : (.instanceMethod yD_principal : Cond) ∈ lw_tbl := List.mem_append_right _ (List.mem_of_getElem? (i := 435) rfl)
set_option maxRecDepth 20000 in
theorem gt_412 : (.selects RD yD_principal yD_principal : Cond) ∈ lw_tbl := List.mem_append_right _ (List.mem_of_getElem? (i := 436) rfl)
set_option maxRecDepth 20000 in
theorem gt_413 : (.code yD_principal cD_principal 2 (some .int) : Cond) ∈ lw_tbl := List.mem_append_right _ (List.mem_of_getElem? (i := 437) rfl)
set_option maxRecDepth 20000 in
theorem gt_414 : (.methodLink RL 107 yL_level : Cond) ∈ lw_tbl := List.mem_append_right _ (List.mem_of_getElem? (i := 438) rfl)
set_option maxRecDepth 20000 in
theorem gt_415 : (.static yL_level : Cond) ∈ lw_tbl := List.mem_append_right _ (List.mem_of_getElem? (i := 439) rfl)
set_option maxRecDepth 20000 in
theorem gt_416 : (.codeWith yL_level cL_level 4 (some .int) [(0, 9, 12, 21)] : Cond) ∈ lw_tbl := List.mem_append_right _ (List.mem_of_getElem? (i := 440) rfl)
set_option maxRecDepth 20000 in
theorem gt_417 : (.methodLink RL 40 yD_level : Cond) ∈ lw_tbl := List.mem_append_right _ (List.mem_of_getElem? (i := 441) rfl)
set_option maxRecDepth 20000 in
theorem gt_418 : (.instanceMethod yD_level : Cond) ∈ lw_tbl := List.mem_append_right _ (List.mem_of_getElem? (i := 442) rfl)
set_option maxRecDepth 20000 in
theorem gt_419 : (.selects RD yD_level yD_level : Cond) ∈ lw_tbl := List.mem_append_right _ (List.mem_of_getElem? (i := 443) rfl)
set_option maxRecDepth 20000 in
theorem gt_420 : (.code yD_level cD_level 2 (some .int) : Cond) ∈ lw_tbl := List.mem_append_right _ (List.mem_of_getElem? (i := 444) rfl)
set_option maxRecDepth 20000 in
theorem gt_421 : (.methodLink RL 110 yL_accrued : Cond) ∈ lw_tbl := List.mem_append_right _ (List.mem_of_getElem? (i := 445) rfl)
set_option maxRecDepth 20000 in
theorem gt_422 : (.static yL_accrued : Cond) ∈ lw_tbl := List.mem_append_right _ (List.mem_of_getElem? (i := 446) rfl)
set_option maxRecDepth 20000 in
theorem gt_423 : (.codeWith yL_accrued cL_accrued 4 (some .int) [(0, 9, 12, 21)] : Cond) ∈ lw_tbl := List.mem_append_right _ (List.mem_of_getElem? (i := 447) rfl)
set_option maxRecDepth 20000 in
theorem gt_424 : (.methodLink RL 43 yD_accrued : Cond) ∈ lw_tbl := List.mem_append_right _ (List.mem_of_getElem? (i := 448) rfl)
set_option maxRecDepth 20000 in
theorem gt_425 : (.instanceMethod yD_accrued : Cond) ∈ lw_tbl := List.mem_append_right _ (List.mem_of_getElem? (i := 449) rfl)
set_option maxRecDepth 20000 in
theorem gt_426 : (.selects RD yD_accrued yD_accrued : Cond) ∈ lw_tbl := List.mem_append_right _ (List.mem_of_getElem? (i := 450) rfl)
set_option maxRecDepth 20000 in
theorem gt_427 : (.code yD_accrued cD_accrued 2 (some .int) : Cond) ∈ lw_tbl := List.mem_append_right _ (List.mem_of_getElem? (i := 451) rfl)
set_option maxRecDepth 20000 in
theorem gt_428 : (.methodLink RD 98 yN_accruedBy : Cond) ∈ lw_tbl := List.mem_append_right _ (List.mem_of_getElem? (i := 452) rfl)
set_option maxRecDepth 20000 in
theorem gt_429 : (.methodLink RL 113 yL_owed : Cond) ∈ lw_tbl := List.mem_append_right _ (List.mem_of_getElem? (i := 453) rfl)
set_option maxRecDepth 20000 in
theorem gt_430 : (.static yL_owed : Cond) ∈ lw_tbl := List.mem_append_right _ (List.mem_of_getElem? (i := 454) rfl)
set_option maxRecDepth 20000 in
theorem gt_431 : (.codeWith yL_owed cL_owed 5 (some .int) [(0, 10, 13, 21), (0, 10, 17, 13)] : Cond) ∈ lw_tbl := List.mem_append_right _ (List.mem_of_getElem? (i := 455) rfl)
set_option maxRecDepth 20000 in
theorem gt_432 : (.methodLink RL 46 yD_owed : Cond) ∈ lw_tbl := List.mem_append_right _ (List.mem_of_getElem? (i := 456) rfl)
set_option maxRecDepth 20000 in
theorem gt_433 : (.instanceMethod yD_owed : Cond) ∈ lw_tbl := List.mem_append_right _ (List.mem_of_getElem? (i := 457) rfl)
set_option maxRecDepth 20000 in
theorem gt_434 : (.selects RD yD_owed yD_owed : Cond) ∈ lw_tbl := List.mem_append_right _ (List.mem_of_getElem? (i := 458) rfl)
set_option maxRecDepth 20000 in
theorem gt_435 : (.code yD_owed cD_owed 4 (some .int) : Cond) ∈ lw_tbl := List.mem_append_right _ (List.mem_of_getElem? (i := 459) rfl)
set_option maxRecDepth 20000 in
theorem gt_436 : (.methodLink RL 116 yL_escrow : Cond) ∈ lw_tbl := List.mem_append_right _ (List.mem_of_getElem? (i := 460) rfl)
set_option maxRecDepth 20000 in
theorem gt_437 : (.static yL_escrow : Cond) ∈ lw_tbl := List.mem_append_right _ (List.mem_of_getElem? (i := 461) rfl)
set_option maxRecDepth 20000 in
theorem gt_438 : (.codeWith yL_escrow cL_escrow 4 (some .int) [(0, 9, 12, 21)] : Cond) ∈ lw_tbl := List.mem_append_right _ (List.mem_of_getElem? (i := 462) rfl)
set_option maxRecDepth 20000 in
theorem gt_439 : (.methodLink RL 49 yD_escrow : Cond) ∈ lw_tbl := List.mem_append_right _ (List.mem_of_getElem? (i := 463) rfl)
theorem gtc_10 : ∀ w ∈ GW_10, w ∈ lw_tbl := List.forall_mem_cons.mpr ⟨gt_400, List.forall_mem_cons.mpr ⟨gt_401, List.forall_mem_cons.mpr ⟨gt_402, List.forall_mem_cons.mpr ⟨gt_403, List.forall_mem_cons.mpr ⟨gt_404, List.forall_mem_cons.mpr ⟨gt_405, List.forall_mem_cons.mpr ⟨gt_406, List.forall_mem_cons.mpr ⟨gt_407, List.forall_mem_cons.mpr ⟨gt_408, List.forall_mem_cons.mpr ⟨gt_409, List.forall_mem_cons.mpr ⟨gt_410, List.forall_mem_cons.mpr ⟨gt_411, List.forall_mem_cons.mpr ⟨gt_412, List.forall_mem_cons.mpr ⟨gt_413, List.forall_mem_cons.mpr ⟨gt_414, List.forall_mem_cons.mpr ⟨gt_415, List.forall_mem_cons.mpr ⟨gt_416, List.forall_mem_cons.mpr ⟨gt_417, List.forall_mem_cons.mpr ⟨gt_418, List.forall_mem_cons.mpr ⟨gt_419, List.forall_mem_cons.mpr ⟨gt_420, List.forall_mem_cons.mpr ⟨gt_421, List.forall_mem_cons.mpr ⟨gt_422, List.forall_mem_cons.mpr ⟨gt_423, List.forall_mem_cons.mpr ⟨gt_424, List.forall_mem_cons.mpr ⟨gt_425, List.forall_mem_cons.mpr ⟨gt_426, List.forall_mem_cons.mpr ⟨gt_427, List.forall_mem_cons.mpr ⟨gt_428, List.forall_mem_cons.mpr ⟨gt_429, List.forall_mem_cons.mpr ⟨gt_430, List.forall_mem_cons.mpr ⟨gt_431, List.forall_mem_cons.mpr ⟨gt_432, List.forall_mem_cons.mpr ⟨gt_433, List.forall_mem_cons.mpr ⟨gt_434, List.forall_mem_cons.mpr ⟨gt_435, List.forall_mem_cons.mpr ⟨gt_436, List.forall_mem_cons.mpr ⟨gt_437, List.forall_mem_cons.mpr ⟨gt_438, List.forall_mem_cons.mpr ⟨gt_439, fun _ h => absurd h List.not_mem_nil⟩⟩⟩⟩⟩⟩⟩⟩⟩⟩⟩⟩⟩⟩⟩⟩⟩⟩⟩⟩⟩⟩⟩⟩⟩⟩⟩⟩⟩⟩⟩⟩⟩⟩⟩⟩⟩⟩⟩⟩
set_option maxRecDepth 20000 in
theorem gt_440 : (.instanceMethod yD_escrow : Cond) ∈ lw_tbl := List.mem_append_right _ (List.mem_of_getElem? (i := 464) rfl)
set_option maxRecDepth 20000 in
theorem gt_441 : (.selects RD yD_escrow yD_escrow : Cond) ∈ lw_tbl := List.mem_append_right _ (List.mem_of_getElem? (i := 465) rfl)
set_option maxRecDepth 20000 in
theorem gt_442 : (.code yD_escrow cD_escrow 2 (some .int) : Cond) ∈ lw_tbl := List.mem_append_right _ (List.mem_of_getElem? (i := 466) rfl)
set_option maxRecDepth 20000 in
theorem gt_443 : (.methodLink RL 119 yL_deposit : Cond) ∈ lw_tbl := List.mem_append_right _ (List.mem_of_getElem? (i := 467) rfl)
set_option maxRecDepth 20000 in
theorem gt_444 : (.static yL_deposit : Cond) ∈ lw_tbl := List.mem_append_right _ (List.mem_of_getElem? (i := 468) rfl)
set_option maxRecDepth 20000 in
theorem gt_445 : (.codeWith yL_deposit cL_deposit 4 (some .int) [(0, 9, 12, 21)] : Cond) ∈ lw_tbl := List.mem_append_right _ (List.mem_of_getElem? (i := 469) rfl)
set_option maxRecDepth 20000 in
theorem gt_446 : (.methodLink RL 52 yD_deposit : Cond) ∈ lw_tbl := List.mem_append_right _ (List.mem_of_getElem? (i := 470) rfl)
set_option maxRecDepth 20000 in
theorem gt_447 : (.instanceMethod yD_deposit : Cond) ∈ lw_tbl := List.mem_append_right _ (List.mem_of_getElem? (i := 471) rfl)
set_option maxRecDepth 20000 in
theorem gt_448 : (.selects RD yD_deposit yD_deposit : Cond) ∈ lw_tbl := List.mem_append_right _ (List.mem_of_getElem? (i := 472) rfl)
set_option maxRecDepth 20000 in
theorem gt_449 : (.code yD_deposit cD_deposit 2 (some .int) : Cond) ∈ lw_tbl := List.mem_append_right _ (List.mem_of_getElem? (i := 473) rfl)
set_option maxRecDepth 20000 in
theorem gt_450 : (.methodLink RL 122 yL_bills : Cond) ∈ lw_tbl := List.mem_append_right _ (List.mem_of_getElem? (i := 474) rfl)
set_option maxRecDepth 20000 in
theorem gt_451 : (.static yL_bills : Cond) ∈ lw_tbl := List.mem_append_right _ (List.mem_of_getElem? (i := 475) rfl)
set_option maxRecDepth 20000 in
theorem gt_452 : (.codeWith yL_bills cL_bills 4 (some .int) [(0, 9, 12, 21)] : Cond) ∈ lw_tbl := List.mem_append_right _ (List.mem_of_getElem? (i := 476) rfl)
set_option maxRecDepth 20000 in
theorem gt_453 : (.methodLink RL 55 yD_bills : Cond) ∈ lw_tbl := List.mem_append_right _ (List.mem_of_getElem? (i := 477) rfl)
set_option maxRecDepth 20000 in
theorem gt_454 : (.instanceMethod yD_bills : Cond) ∈ lw_tbl := List.mem_append_right _ (List.mem_of_getElem? (i := 478) rfl)
set_option maxRecDepth 20000 in
theorem gt_455 : (.selects RD yD_bills yD_bills : Cond) ∈ lw_tbl := List.mem_append_right _ (List.mem_of_getElem? (i := 479) rfl)
set_option maxRecDepth 20000 in
theorem gt_456 : (.code yD_bills cD_bills 2 (some .int) : Cond) ∈ lw_tbl := List.mem_append_right _ (List.mem_of_getElem? (i := 480) rfl)
set_option maxRecDepth 20000 in
theorem gt_457 : (.methodLink RL 125 yL_bill : Cond) ∈ lw_tbl := List.mem_append_right _ (List.mem_of_getElem? (i := 481) rfl)
set_option maxRecDepth 20000 in
theorem gt_458 : (.static yL_bill : Cond) ∈ lw_tbl := List.mem_append_right _ (List.mem_of_getElem? (i := 482) rfl)
set_option maxRecDepth 20000 in
theorem gt_459 : (.codeWith yL_bill cL_bill 6 (some .int) [(0, 12, 15, 21), (0, 12, 19, 13), (0, 12, 23, 62)] : Cond) ∈ lw_tbl := List.mem_append_right _ (List.mem_of_getElem? (i := 483) rfl)
set_option maxRecDepth 20000 in
theorem gt_460 : (.classLink RL 62 "java/util/NoSuchElementException" : Cond) ∈ lw_tbl := List.mem_append_right _ (List.mem_of_getElem? (i := 484) rfl)
set_option maxRecDepth 20000 in
theorem gt_461 : (.methodLink RL 58 yD_bill : Cond) ∈ lw_tbl := List.mem_append_right _ (List.mem_of_getElem? (i := 485) rfl)
set_option maxRecDepth 20000 in
theorem gt_462 : (.instanceMethod yD_bill : Cond) ∈ lw_tbl := List.mem_append_right _ (List.mem_of_getElem? (i := 486) rfl)
set_option maxRecDepth 20000 in
theorem gt_463 : (.selects RD yD_bill yD_bill : Cond) ∈ lw_tbl := List.mem_append_right _ (List.mem_of_getElem? (i := 487) rfl)
set_option maxRecDepth 20000 in
theorem gt_464 : (.code yD_bill cD_bill 5 (some .int) : Cond) ∈ lw_tbl := List.mem_append_right _ (List.mem_of_getElem? (i := 488) rfl)
set_option maxRecDepth 20000 in
theorem gt_465 : (.classLink RD 119 "java/util/NoSuchElementException" : Cond) ∈ lw_tbl := List.mem_append_right _ (List.mem_of_getElem? (i := 489) rfl)
set_option maxRecDepth 20000 in
theorem gt_466 : (.instantiable "java/util/NoSuchElementException" 6 : Cond) ∈ lw_tbl := List.mem_append_right _ (List.mem_of_getElem? (i := 490) rfl)
set_option maxRecDepth 20000 in
theorem gt_467 : (.selects "java/util/NoSuchElementException" ⟨"java/lang/Throwable", "fillInStackTrace", "(I)Ljava/lang/Throwable;"⟩ ⟨"java/lang/Throwable", "fillInStackTrace", "(I)Ljava/lang/Throwable;"⟩ : Cond) ∈ lw_tbl := List.mem_append_right _ (List.mem_of_getElem? (i := 492) rfl)
set_option maxRecDepth 20000 in
theorem gt_468 : (.lays "java/util/NoSuchElementException" "java/lang/Throwable" "cause" "Ljava/lang/Throwable;" : Cond) ∈ lw_tbl := List.mem_append_right _ (List.mem_of_getElem? (i := 493) rfl)
set_option maxRecDepth 20000 in
theorem gt_469 : (.lays "java/util/NoSuchElementException" "java/lang/Throwable" "stackTrace" "[Ljava/lang/StackTraceElement;" : Cond) ∈ lw_tbl := List.mem_append_right _ (List.mem_of_getElem? (i := 494) rfl)
set_option maxRecDepth 20000 in
theorem gt_470 : (.lays "java/util/NoSuchElementException" "java/lang/Throwable" "suppressedExceptions" "Ljava/util/List;" : Cond) ∈ lw_tbl := List.mem_append_right _ (List.mem_of_getElem? (i := 495) rfl)
set_option maxRecDepth 20000 in
theorem gt_471 : (.lays "java/util/NoSuchElementException" "java/lang/Throwable" "detailMessage" "Ljava/lang/String;" : Cond) ∈ lw_tbl := List.mem_append_right _ (List.mem_of_getElem? (i := 496) rfl)
set_option maxRecDepth 20000 in
theorem gt_472 : (.lays "java/util/NoSuchElementException" "java/lang/Throwable" "backtrace" "Ljava/lang/Object;" : Cond) ∈ lw_tbl := List.mem_append_right _ (List.mem_of_getElem? (i := 497) rfl)
set_option maxRecDepth 20000 in
theorem gt_473 : (.methodLink RD 121 ⟨"java/util/NoSuchElementException", "<init>", "()V"⟩ : Cond) ∈ lw_tbl := List.mem_append_right _ (List.mem_of_getElem? (i := 498) rfl)
set_option maxRecDepth 20000 in
theorem gt_474 : (.instanceMethod ⟨"java/util/NoSuchElementException", "<init>", "()V"⟩ : Cond) ∈ lw_tbl := List.mem_append_right _ (List.mem_of_getElem? (i := 499) rfl)
set_option maxRecDepth 20000 in
theorem gt_475 : ((Jvm.Cond.code ({ cls := "java/util/NoSuchElementException", name := "<init>", desc := "()V" } : Jvm.MethodName) prog_18_method_1_code (1 : Nat) (Option.none : Option Jvm.ClassFile.FieldType)) : Cond) ∈ lw_tbl := List.mem_append_right _ (List.mem_of_getElem? (i := 500) rfl)
set_option maxRecDepth 20000 in
theorem gt_476 : (.methodLink "java/util/NoSuchElementException" 1 ⟨"java/lang/RuntimeException", "<init>", "()V"⟩ : Cond) ∈ lw_tbl := List.mem_append_right _ (List.mem_of_getElem? (i := 501) rfl)
set_option maxRecDepth 20000 in
theorem gt_477 : (.lays "java/util/NoSuchElementException" "java/lang/Throwable" "depth" "I" : Cond) ∈ lw_tbl := List.mem_append_right _ (List.mem_of_getElem? (i := 502) rfl)
set_option maxRecDepth 20000 in
theorem gt_478 : ((Jvm.Cond.superclass "java/util/NoSuchElementException" "java/lang/RuntimeException") : Cond) ∈ lw_tbl := List.mem_append_right _ (List.mem_of_getElem? (i := 503) rfl)
set_option maxRecDepth 20000 in
theorem gt_479 : (.methodLink RL 129 yL_interest : Cond) ∈ lw_tbl := List.mem_append_right _ (List.mem_of_getElem? (i := 504) rfl)
theorem gtc_11 : ∀ w ∈ GW_11, w ∈ lw_tbl := List.forall_mem_cons.mpr ⟨gt_440, List.forall_mem_cons.mpr ⟨gt_441, List.forall_mem_cons.mpr ⟨gt_442, List.forall_mem_cons.mpr ⟨gt_443, List.forall_mem_cons.mpr ⟨gt_444, List.forall_mem_cons.mpr ⟨gt_445, List.forall_mem_cons.mpr ⟨gt_446, List.forall_mem_cons.mpr ⟨gt_447, List.forall_mem_cons.mpr ⟨gt_448, List.forall_mem_cons.mpr ⟨gt_449, List.forall_mem_cons.mpr ⟨gt_450, List.forall_mem_cons.mpr ⟨gt_451, List.forall_mem_cons.mpr ⟨gt_452, List.forall_mem_cons.mpr ⟨gt_453, List.forall_mem_cons.mpr ⟨gt_454, List.forall_mem_cons.mpr ⟨gt_455, List.forall_mem_cons.mpr ⟨gt_456, List.forall_mem_cons.mpr ⟨gt_457, List.forall_mem_cons.mpr ⟨gt_458, List.forall_mem_cons.mpr ⟨gt_459, List.forall_mem_cons.mpr ⟨gt_460, List.forall_mem_cons.mpr ⟨gt_461, List.forall_mem_cons.mpr ⟨gt_462, List.forall_mem_cons.mpr ⟨gt_463, List.forall_mem_cons.mpr ⟨gt_464, List.forall_mem_cons.mpr ⟨gt_465, List.forall_mem_cons.mpr ⟨gt_466, List.forall_mem_cons.mpr ⟨gt_467, List.forall_mem_cons.mpr ⟨gt_468, List.forall_mem_cons.mpr ⟨gt_469, List.forall_mem_cons.mpr ⟨gt_470, List.forall_mem_cons.mpr ⟨gt_471, List.forall_mem_cons.mpr ⟨gt_472, List.forall_mem_cons.mpr ⟨gt_473, List.forall_mem_cons.mpr ⟨gt_474, List.forall_mem_cons.mpr ⟨gt_475, List.forall_mem_cons.mpr ⟨gt_476, List.forall_mem_cons.mpr ⟨gt_477, List.forall_mem_cons.mpr ⟨gt_478, List.forall_mem_cons.mpr ⟨gt_479, fun _ h => absurd h List.not_mem_nil⟩⟩⟩⟩⟩⟩⟩⟩⟩⟩⟩⟩⟩⟩⟩⟩⟩⟩⟩⟩⟩⟩⟩⟩⟩⟩⟩⟩⟩⟩⟩⟩⟩⟩⟩⟩⟩⟩⟩⟩
set_option maxRecDepth 20000 in
theorem gt_480 : (.static yL_interest : Cond) ∈ lw_tbl := List.mem_append_right _ (List.mem_of_getElem? (i := 505) rfl)
set_option maxRecDepth 20000 in
theorem gt_481 : (.codeWith yL_interest cL_interest 9 (some .int) [(0, 18, 21, 13)] : Cond) ∈ lw_tbl := List.mem_append_right _ (List.mem_of_getElem? (i := 506) rfl)
set_option maxRecDepth 20000 in
theorem gt_482 : (.methodLink RL 64 yD_interest : Cond) ∈ lw_tbl := List.mem_append_right _ (List.mem_of_getElem? (i := 507) rfl)
set_option maxRecDepth 20000 in
theorem gt_483 : (.instanceMethod yD_interest : Cond) ∈ lw_tbl := List.mem_append_right _ (List.mem_of_getElem? (i := 508) rfl)
set_option maxRecDepth 20000 in
theorem gt_484 : (.selects RD yD_interest yD_interest : Cond) ∈ lw_tbl := List.mem_append_right _ (List.mem_of_getElem? (i := 509) rfl)
set_option maxRecDepth 20000 in
theorem gt_485 : (.code yD_interest cD_interest 7 (some .int) : Cond) ∈ lw_tbl := List.mem_append_right _ (List.mem_of_getElem? (i := 510) rfl)
set_option maxRecDepth 20000 in
theorem gt_486 : (.methodLink RD 125 yS_top : Cond) ∈ lw_tbl := List.mem_append_right _ (List.mem_of_getElem? (i := 511) rfl)
set_option maxRecDepth 20000 in
theorem gt_487 : (.methodLink RD 131 yC_interestOn : Cond) ∈ lw_tbl := List.mem_append_right _ (List.mem_of_getElem? (i := 512) rfl)
set_option maxRecDepth 20000 in
theorem gt_488 : (.classLink RL 69 RM : Cond) ∈ lw_tbl := List.mem_append_right _ (List.mem_of_getElem? (i := 513) rfl)
set_option maxRecDepth 20000 in
theorem gt_489 : (.instantiable RM 28 : Cond) ∈ lw_tbl := List.mem_append_right _ (List.mem_of_getElem? (i := 514) rfl)
set_option maxRecDepth 20000 in
theorem gt_490 : (.methodLink RL 71 yM_init : Cond) ∈ lw_tbl := List.mem_append_right _ (List.mem_of_getElem? (i := 515) rfl)
set_option maxRecDepth 20000 in
theorem gt_491 : (.instanceMethod yM_init : Cond) ∈ lw_tbl := List.mem_append_right _ (List.mem_of_getElem? (i := 516) rfl)
set_option maxRecDepth 20000 in
theorem gt_492 : (.code yM_init cM_init 1 none : Cond) ∈ lw_tbl := List.mem_append_right _ (List.mem_of_getElem? (i := 517) rfl)
set_option maxRecDepth 20000 in
theorem gt_493 : (.methodLink RM 1 objectInit : Cond) ∈ lw_tbl := List.mem_append_right _ (List.mem_of_getElem? (i := 518) rfl)
set_option maxRecDepth 20000 in
theorem gt_494 : (.fieldLink RM 77 "LoanDeskModel" "code" "I" : Cond) ∈ lw_tbl := List.mem_append_right _ (List.mem_of_getElem? (i := 519) rfl)
set_option maxRecDepth 20000 in
theorem gt_495 : (.fieldLink RM 106 "LoanDeskModel" "today" "I" : Cond) ∈ lw_tbl := List.mem_append_right _ (List.mem_of_getElem? (i := 520) rfl)
set_option maxRecDepth 20000 in
theorem gt_496 : (.fieldLink RM 160 "LoanDeskModel" "loans" "I" : Cond) ∈ lw_tbl := List.mem_append_right _ (List.mem_of_getElem? (i := 521) rfl)
set_option maxRecDepth 20000 in
theorem gt_497 : (.fieldLink RM 7 "LoanDeskModel" "opened" "[I" : Cond) ∈ lw_tbl := List.mem_append_right _ (List.mem_of_getElem? (i := 522) rfl)
set_option maxRecDepth 20000 in
theorem gt_498 : (.fieldLink RM 13 "LoanDeskModel" "rate" "[I" : Cond) ∈ lw_tbl := List.mem_append_right _ (List.mem_of_getElem? (i := 523) rfl)
set_option maxRecDepth 20000 in
theorem gt_499 : (.fieldLink RM 16 "LoanDeskModel" "months" "[I" : Cond) ∈ lw_tbl := List.mem_append_right _ (List.mem_of_getElem? (i := 524) rfl)
set_option maxRecDepth 20000 in
theorem gt_500 : (.fieldLink RM 19 "LoanDeskModel" "rule" "[I" : Cond) ∈ lw_tbl := List.mem_append_right _ (List.mem_of_getElem? (i := 525) rfl)
set_option maxRecDepth 20000 in
theorem gt_501 : (.fieldLink RM 22 "LoanDeskModel" "rounding" "[I" : Cond) ∈ lw_tbl := List.mem_append_right _ (List.mem_of_getElem? (i := 526) rfl)
set_option maxRecDepth 20000 in
theorem gt_502 : (.fieldLink RM 25 "LoanDeskModel" "steady" "[Z" : Cond) ∈ lw_tbl := List.mem_append_right _ (List.mem_of_getElem? (i := 527) rfl)
set_option maxRecDepth 20000 in
theorem gt_503 : (.fieldLink RM 29 "LoanDeskModel" "principal" "[I" : Cond) ∈ lw_tbl := List.mem_append_right _ (List.mem_of_getElem? (i := 528) rfl)
set_option maxRecDepth 20000 in
theorem gt_504 : (.fieldLink RM 32 "LoanDeskModel" "level" "[I" : Cond) ∈ lw_tbl := List.mem_append_right _ (List.mem_of_getElem? (i := 529) rfl)
set_option maxRecDepth 20000 in
theorem gt_505 : (.fieldLink RM 35 "LoanDeskModel" "accrued" "[I" : Cond) ∈ lw_tbl := List.mem_append_right _ (List.mem_of_getElem? (i := 530) rfl)
set_option maxRecDepth 20000 in
theorem gt_506 : (.fieldLink RM 38 "LoanDeskModel" "upTo" "[I" : Cond) ∈ lw_tbl := List.mem_append_right _ (List.mem_of_getElem? (i := 531) rfl)
set_option maxRecDepth 20000 in
theorem gt_507 : (.fieldLink RM 41 "LoanDeskModel" "escrow" "[I" : Cond) ∈ lw_tbl := List.mem_append_right _ (List.mem_of_getElem? (i := 532) rfl)
set_option maxRecDepth 20000 in
theorem gt_508 : (.fieldLink RM 44 "LoanDeskModel" "charge" "[I" : Cond) ∈ lw_tbl := List.mem_append_right _ (List.mem_of_getElem? (i := 533) rfl)
set_option maxRecDepth 20000 in
theorem gt_509 : (.fieldLink RM 47 "LoanDeskModel" "deposit" "[I" : Cond) ∈ lw_tbl := List.mem_append_right _ (List.mem_of_getElem? (i := 534) rfl)
set_option maxRecDepth 20000 in
theorem gt_510 : (.fieldLink RM 50 "LoanDeskModel" "owed" "[I" : Cond) ∈ lw_tbl := List.mem_append_right _ (List.mem_of_getElem? (i := 535) rfl)
set_option maxRecDepth 20000 in
theorem gt_511 : (.fieldLink RM 53 "LoanDeskModel" "paid" "[Z" : Cond) ∈ lw_tbl := List.mem_append_right _ (List.mem_of_getElem? (i := 536) rfl)
set_option maxRecDepth 20000 in
theorem gt_512 : (.fieldLink RM 56 "LoanDeskModel" "parts" "[I" : Cond) ∈ lw_tbl := List.mem_append_right _ (List.mem_of_getElem? (i := 537) rfl)
set_option maxRecDepth 20000 in
theorem gt_513 : (.fieldLink RM 59 "LoanDeskModel" "bills" "[I" : Cond) ∈ lw_tbl := List.mem_append_right _ (List.mem_of_getElem? (i := 538) rfl)
set_option maxRecDepth 20000 in
theorem gt_514 : (.fieldLink RM 62 "LoanDeskModel" "billDay" "[I" : Cond) ∈ lw_tbl := List.mem_append_right _ (List.mem_of_getElem? (i := 539) rfl)
set_option maxRecDepth 20000 in
theorem gt_515 : (.fieldLink RM 65 "LoanDeskModel" "billPrincipal" "[I" : Cond) ∈ lw_tbl := List.mem_append_right _ (List.mem_of_getElem? (i := 540) rfl)
set_option maxRecDepth 20000 in
theorem gt_516 : (.fieldLink RM 68 "LoanDeskModel" "billInterest" "[I" : Cond) ∈ lw_tbl := List.mem_append_right _ (List.mem_of_getElem? (i := 541) rfl)
set_option maxRecDepth 20000 in
theorem gt_517 : (.fieldLink RM 71 "LoanDeskModel" "billPart" "[I" : Cond) ∈ lw_tbl := List.mem_append_right _ (List.mem_of_getElem? (i := 542) rfl)
set_option maxRecDepth 20000 in
theorem gt_518 : (.fieldLink RM 74 "LoanDeskModel" "billDeposit" "[I" : Cond) ∈ lw_tbl := List.mem_append_right _ (List.mem_of_getElem? (i := 543) rfl)
set_option maxRecDepth 20000 in
theorem gt_519 : (.fieldLink RM 85 "LoanDeskModel" "year" "I" : Cond) ∈ lw_tbl := List.mem_append_right _ (List.mem_of_getElem? (i := 544) rfl)
theorem gtc_12 : ∀ w ∈ GW_12, w ∈ lw_tbl := List.forall_mem_cons.mpr ⟨gt_480, List.forall_mem_cons.mpr ⟨gt_481, List.forall_mem_cons.mpr ⟨gt_482, List.forall_mem_cons.mpr ⟨gt_483, List.forall_mem_cons.mpr ⟨gt_484, List.forall_mem_cons.mpr ⟨gt_485, List.forall_mem_cons.mpr ⟨gt_486, List.forall_mem_cons.mpr ⟨gt_487, List.forall_mem_cons.mpr ⟨gt_488, List.forall_mem_cons.mpr ⟨gt_489, List.forall_mem_cons.mpr ⟨gt_490, List.forall_mem_cons.mpr ⟨gt_491, List.forall_mem_cons.mpr ⟨gt_492, List.forall_mem_cons.mpr ⟨gt_493, List.forall_mem_cons.mpr ⟨gt_494, List.forall_mem_cons.mpr ⟨gt_495, List.forall_mem_cons.mpr ⟨gt_496, List.forall_mem_cons.mpr ⟨gt_497, List.forall_mem_cons.mpr ⟨gt_498, List.forall_mem_cons.mpr ⟨gt_499, List.forall_mem_cons.mpr ⟨gt_500, List.forall_mem_cons.mpr ⟨gt_501, List.forall_mem_cons.mpr ⟨gt_502, List.forall_mem_cons.mpr ⟨gt_503, List.forall_mem_cons.mpr ⟨gt_504, List.forall_mem_cons.mpr ⟨gt_505, List.forall_mem_cons.mpr ⟨gt_506, List.forall_mem_cons.mpr ⟨gt_507, List.forall_mem_cons.mpr ⟨gt_508, List.forall_mem_cons.mpr ⟨gt_509, List.forall_mem_cons.mpr ⟨gt_510, List.forall_mem_cons.mpr ⟨gt_511, List.forall_mem_cons.mpr ⟨gt_512, List.forall_mem_cons.mpr ⟨gt_513, List.forall_mem_cons.mpr ⟨gt_514, List.forall_mem_cons.mpr ⟨gt_515, List.forall_mem_cons.mpr ⟨gt_516, List.forall_mem_cons.mpr ⟨gt_517, List.forall_mem_cons.mpr ⟨gt_518, List.forall_mem_cons.mpr ⟨gt_519, fun _ h => absurd h List.not_mem_nil⟩⟩⟩⟩⟩⟩⟩⟩⟩⟩⟩⟩⟩⟩⟩⟩⟩⟩⟩⟩⟩⟩⟩⟩⟩⟩⟩⟩⟩⟩⟩⟩⟩⟩⟩⟩⟩⟩⟩⟩
set_option maxRecDepth 20000 in
theorem gt_520 : (.fieldLink RM 88 "LoanDeskModel" "month" "I" : Cond) ∈ lw_tbl := List.mem_append_right _ (List.mem_of_getElem? (i := 545) rfl)
set_option maxRecDepth 20000 in
theorem gt_521 : (.fieldLink RM 95 "LoanDeskModel" "number" "I" : Cond) ∈ lw_tbl := List.mem_append_right _ (List.mem_of_getElem? (i := 546) rfl)
set_option maxRecDepth 20000 in
theorem gt_522 : (.lays RM "LoanDeskModel" "code" "I" : Cond) ∈ lw_tbl := List.mem_append_right _ (List.mem_of_getElem? (i := 547) rfl)
set_option maxRecDepth 20000 in
theorem gt_523 : ((Jvm.Cond.soleField "LoanDeskModel" "code") : Cond) ∈ lw_tbl := List.mem_append_right _ (List.mem_of_getElem? (i := 548) rfl)
set_option maxRecDepth 20000 in
theorem gt_524 : (.lays RM "LoanDeskModel" "today" "I" : Cond) ∈ lw_tbl := List.mem_append_right _ (List.mem_of_getElem? (i := 549) rfl)
set_option maxRecDepth 20000 in
theorem gt_525 : ((Jvm.Cond.soleField "LoanDeskModel" "today") : Cond) ∈ lw_tbl := List.mem_append_right _ (List.mem_of_getElem? (i := 550) rfl)
set_option maxRecDepth 20000 in
theorem gt_526 : (.lays RM "LoanDeskModel" "loans" "I" : Cond) ∈ lw_tbl := List.mem_append_right _ (List.mem_of_getElem? (i := 551) rfl)
set_option maxRecDepth 20000 in
theorem gt_527 : ((Jvm.Cond.soleField "LoanDeskModel" "loans") : Cond) ∈ lw_tbl := List.mem_append_right _ (List.mem_of_getElem? (i := 552) rfl)
set_option maxRecDepth 20000 in
theorem gt_528 : (.lays RM "LoanDeskModel" "opened" "[I" : Cond) ∈ lw_tbl := List.mem_append_right _ (List.mem_of_getElem? (i := 553) rfl)
set_option maxRecDepth 20000 in
theorem gt_529 : ((Jvm.Cond.soleField "LoanDeskModel" "opened") : Cond) ∈ lw_tbl := List.mem_append_right _ (List.mem_of_getElem? (i := 554) rfl)
set_option maxRecDepth 20000 in
theorem gt_530 : (.lays RM "LoanDeskModel" "rate" "[I" : Cond) ∈ lw_tbl := List.mem_append_right _ (List.mem_of_getElem? (i := 555) rfl)
set_option maxRecDepth 20000 in
theorem gt_531 : ((Jvm.Cond.soleField "LoanDeskModel" "rate") : Cond) ∈ lw_tbl := List.mem_append_right _ (List.mem_of_getElem? (i := 556) rfl)
set_option maxRecDepth 20000 in
theorem gt_532 : (.lays RM "LoanDeskModel" "months" "[I" : Cond) ∈ lw_tbl := List.mem_append_right _ (List.mem_of_getElem? (i := 557) rfl)
set_option maxRecDepth 20000 in
theorem gt_533 : ((Jvm.Cond.soleField "LoanDeskModel" "months") : Cond) ∈ lw_tbl := List.mem_append_right _ (List.mem_of_getElem? (i := 558) rfl)
set_option maxRecDepth 20000 in
theorem gt_534 : (.lays RM "LoanDeskModel" "rule" "[I" : Cond) ∈ lw_tbl := List.mem_append_right _ (List.mem_of_getElem? (i := 559) rfl)
set_option maxRecDepth 20000 in
theorem gt_535 : ((Jvm.Cond.soleField "LoanDeskModel" "rule") : Cond) ∈ lw_tbl := List.mem_append_right _ (List.mem_of_getElem? (i := 560) rfl)
set_option maxRecDepth 20000 in
theorem gt_536 : (.lays RM "LoanDeskModel" "rounding" "[I" : Cond) ∈ lw_tbl := List.mem_append_right _ (List.mem_of_getElem? (i := 561) rfl)
set_option maxRecDepth 20000 in
theorem gt_537 : ((Jvm.Cond.soleField "LoanDeskModel" "rounding") : Cond) ∈ lw_tbl := List.mem_append_right _ (List.mem_of_getElem? (i := 562) rfl)
set_option maxRecDepth 20000 in
theorem gt_538 : (.lays RM "LoanDeskModel" "steady" "[Z" : Cond) ∈ lw_tbl := List.mem_append_right _ (List.mem_of_getElem? (i := 563) rfl)
set_option maxRecDepth 20000 in
theorem gt_539 : ((Jvm.Cond.soleField "LoanDeskModel" "steady") : Cond) ∈ lw_tbl := List.mem_append_right _ (List.mem_of_getElem? (i := 564) rfl)
set_option maxRecDepth 20000 in
theorem gt_540 : (.lays RM "LoanDeskModel" "principal" "[I" : Cond) ∈ lw_tbl := List.mem_append_right _ (List.mem_of_getElem? (i := 565) rfl)
set_option maxRecDepth 20000 in
theorem gt_541 : ((Jvm.Cond.soleField "LoanDeskModel" "principal") : Cond) ∈ lw_tbl := List.mem_append_right _ (List.mem_of_getElem? (i := 566) rfl)
set_option maxRecDepth 20000 in
theorem gt_542 : (.lays RM "LoanDeskModel" "level" "[I" : Cond) ∈ lw_tbl := List.mem_append_right _ (List.mem_of_getElem? (i := 567) rfl)
set_option maxRecDepth 20000 in
theorem gt_543 : ((Jvm.Cond.soleField "LoanDeskModel" "level") : Cond) ∈ lw_tbl := List.mem_append_right _ (List.mem_of_getElem? (i := 568) rfl)
set_option maxRecDepth 20000 in
theorem gt_544 : (.lays RM "LoanDeskModel" "accrued" "[I" : Cond) ∈ lw_tbl := List.mem_append_right _ (List.mem_of_getElem? (i := 569) rfl)
set_option maxRecDepth 20000 in
theorem gt_545 : ((Jvm.Cond.soleField "LoanDeskModel" "accrued") : Cond) ∈ lw_tbl := List.mem_append_right _ (List.mem_of_getElem? (i := 570) rfl)
set_option maxRecDepth 20000 in
theorem gt_546 : (.lays RM "LoanDeskModel" "upTo" "[I" : Cond) ∈ lw_tbl := List.mem_append_right _ (List.mem_of_getElem? (i := 571) rfl)
set_option maxRecDepth 20000 in
theorem gt_547 : ((Jvm.Cond.soleField "LoanDeskModel" "upTo") : Cond) ∈ lw_tbl := List.mem_append_right _ (List.mem_of_getElem? (i := 572) rfl)
set_option maxRecDepth 20000 in
theorem gt_548 : (.lays RM "LoanDeskModel" "escrow" "[I" : Cond) ∈ lw_tbl := List.mem_append_right _ (List.mem_of_getElem? (i := 573) rfl)
set_option maxRecDepth 20000 in
theorem gt_549 : ((Jvm.Cond.soleField "LoanDeskModel" "escrow") : Cond) ∈ lw_tbl := List.mem_append_right _ (List.mem_of_getElem? (i := 574) rfl)
set_option maxRecDepth 20000 in
theorem gt_550 : (.lays RM "LoanDeskModel" "charge" "[I" : Cond) ∈ lw_tbl := List.mem_append_right _ (List.mem_of_getElem? (i := 575) rfl)
set_option maxRecDepth 20000 in
theorem gt_551 : ((Jvm.Cond.soleField "LoanDeskModel" "charge") : Cond) ∈ lw_tbl := List.mem_append_right _ (List.mem_of_getElem? (i := 576) rfl)
set_option maxRecDepth 20000 in
theorem gt_552 : (.lays RM "LoanDeskModel" "deposit" "[I" : Cond) ∈ lw_tbl := List.mem_append_right _ (List.mem_of_getElem? (i := 577) rfl)
set_option maxRecDepth 20000 in
theorem gt_553 : ((Jvm.Cond.soleField "LoanDeskModel" "deposit") : Cond) ∈ lw_tbl := List.mem_append_right _ (List.mem_of_getElem? (i := 578) rfl)
set_option maxRecDepth 20000 in
theorem gt_554 : (.lays RM "LoanDeskModel" "owed" "[I" : Cond) ∈ lw_tbl := List.mem_append_right _ (List.mem_of_getElem? (i := 579) rfl)
set_option maxRecDepth 20000 in
theorem gt_555 : ((Jvm.Cond.soleField "LoanDeskModel" "owed") : Cond) ∈ lw_tbl := List.mem_append_right _ (List.mem_of_getElem? (i := 580) rfl)
set_option maxRecDepth 20000 in
theorem gt_556 : (.lays RM "LoanDeskModel" "paid" "[Z" : Cond) ∈ lw_tbl := List.mem_append_right _ (List.mem_of_getElem? (i := 581) rfl)
set_option maxRecDepth 20000 in
theorem gt_557 : ((Jvm.Cond.soleField "LoanDeskModel" "paid") : Cond) ∈ lw_tbl := List.mem_append_right _ (List.mem_of_getElem? (i := 582) rfl)
set_option maxRecDepth 20000 in
theorem gt_558 : (.lays RM "LoanDeskModel" "parts" "[I" : Cond) ∈ lw_tbl := List.mem_append_right _ (List.mem_of_getElem? (i := 583) rfl)
set_option maxRecDepth 20000 in
theorem gt_559 : ((Jvm.Cond.soleField "LoanDeskModel" "parts") : Cond) ∈ lw_tbl := List.mem_append_right _ (List.mem_of_getElem? (i := 584) rfl)
theorem gtc_13 : ∀ w ∈ GW_13, w ∈ lw_tbl := List.forall_mem_cons.mpr ⟨gt_520, List.forall_mem_cons.mpr ⟨gt_521, List.forall_mem_cons.mpr ⟨gt_522, List.forall_mem_cons.mpr ⟨gt_523, List.forall_mem_cons.mpr ⟨gt_524, List.forall_mem_cons.mpr ⟨gt_525, List.forall_mem_cons.mpr ⟨gt_526, List.forall_mem_cons.mpr ⟨gt_527, List.forall_mem_cons.mpr ⟨gt_528, List.forall_mem_cons.mpr ⟨gt_529, List.forall_mem_cons.mpr ⟨gt_530, List.forall_mem_cons.mpr ⟨gt_531, List.forall_mem_cons.mpr ⟨gt_532, List.forall_mem_cons.mpr ⟨gt_533, List.forall_mem_cons.mpr ⟨gt_534, List.forall_mem_cons.mpr ⟨gt_535, List.forall_mem_cons.mpr ⟨gt_536, List.forall_mem_cons.mpr ⟨gt_537, List.forall_mem_cons.mpr ⟨gt_538, List.forall_mem_cons.mpr ⟨gt_539, List.forall_mem_cons.mpr ⟨gt_540, List.forall_mem_cons.mpr ⟨gt_541, List.forall_mem_cons.mpr ⟨gt_542, List.forall_mem_cons.mpr ⟨gt_543, List.forall_mem_cons.mpr ⟨gt_544, List.forall_mem_cons.mpr ⟨gt_545, List.forall_mem_cons.mpr ⟨gt_546, List.forall_mem_cons.mpr ⟨gt_547, List.forall_mem_cons.mpr ⟨gt_548, List.forall_mem_cons.mpr ⟨gt_549, List.forall_mem_cons.mpr ⟨gt_550, List.forall_mem_cons.mpr ⟨gt_551, List.forall_mem_cons.mpr ⟨gt_552, List.forall_mem_cons.mpr ⟨gt_553, List.forall_mem_cons.mpr ⟨gt_554, List.forall_mem_cons.mpr ⟨gt_555, List.forall_mem_cons.mpr ⟨gt_556, List.forall_mem_cons.mpr ⟨gt_557, List.forall_mem_cons.mpr ⟨gt_558, List.forall_mem_cons.mpr ⟨gt_559, fun _ h => absurd h List.not_mem_nil⟩⟩⟩⟩⟩⟩⟩⟩⟩⟩⟩⟩⟩⟩⟩⟩⟩⟩⟩⟩⟩⟩⟩⟩⟩⟩⟩⟩⟩⟩⟩⟩⟩⟩⟩⟩⟩⟩⟩⟩
set_option maxRecDepth 20000 in
theorem gt_560 : (.lays RM "LoanDeskModel" "bills" "[I" : Cond) ∈ lw_tbl := List.mem_append_right _ (List.mem_of_getElem? (i := 585) rfl)
set_option maxRecDepth 20000 in
theorem gt_561 : ((Jvm.Cond.soleField "LoanDeskModel" "bills") : Cond) ∈ lw_tbl := List.mem_append_right _ (List.mem_of_getElem? (i := 586) rfl)
set_option maxRecDepth 20000 in
theorem gt_562 : (.lays RM "LoanDeskModel" "billDay" "[I" : Cond) ∈ lw_tbl := List.mem_append_right _ (List.mem_of_getElem? (i := 587) rfl)
set_option maxRecDepth 20000 in
theorem gt_563 : ((Jvm.Cond.soleField "LoanDeskModel" "billDay") : Cond) ∈ lw_tbl := List.mem_append_right _ (List.mem_of_getElem? (i := 588) rfl)
set_option maxRecDepth 20000 in
theorem gt_564 : (.lays RM "LoanDeskModel" "billPrincipal" "[I" : Cond) ∈ lw_tbl := List.mem_append_right _ (List.mem_of_getElem? (i := 589) rfl)
set_option maxRecDepth 20000 in
theorem gt_565 : ((Jvm.Cond.soleField "LoanDeskModel" "billPrincipal") : Cond) ∈ lw_tbl := List.mem_append_right _ (List.mem_of_getElem? (i := 590) rfl)
set_option maxRecDepth 20000 in
theorem gt_566 : (.lays RM "LoanDeskModel" "billInterest" "[I" : Cond) ∈ lw_tbl := List.mem_append_right _ (List.mem_of_getElem? (i := 591) rfl)
set_option maxRecDepth 20000 in
theorem gt_567 : ((Jvm.Cond.soleField "LoanDeskModel" "billInterest") : Cond) ∈ lw_tbl := List.mem_append_right _ (List.mem_of_getElem? (i := 592) rfl)
set_option maxRecDepth 20000 in
theorem gt_568 : (.lays RM "LoanDeskModel" "billPart" "[I" : Cond) ∈ lw_tbl := List.mem_append_right _ (List.mem_of_getElem? (i := 593) rfl)
set_option maxRecDepth 20000 in
theorem gt_569 : ((Jvm.Cond.soleField "LoanDeskModel" "billPart") : Cond) ∈ lw_tbl := List.mem_append_right _ (List.mem_of_getElem? (i := 594) rfl)
set_option maxRecDepth 20000 in
theorem gt_570 : (.lays RM "LoanDeskModel" "billDeposit" "[I" : Cond) ∈ lw_tbl := List.mem_append_right _ (List.mem_of_getElem? (i := 595) rfl)
set_option maxRecDepth 20000 in
theorem gt_571 : ((Jvm.Cond.soleField "LoanDeskModel" "billDeposit") : Cond) ∈ lw_tbl := List.mem_append_right _ (List.mem_of_getElem? (i := 596) rfl)
set_option maxRecDepth 20000 in
theorem gt_572 : (.lays RM "LoanDeskModel" "year" "I" : Cond) ∈ lw_tbl := List.mem_append_right _ (List.mem_of_getElem? (i := 597) rfl)
set_option maxRecDepth 20000 in
theorem gt_573 : ((Jvm.Cond.soleField "LoanDeskModel" "year") : Cond) ∈ lw_tbl := List.mem_append_right _ (List.mem_of_getElem? (i := 598) rfl)
set_option maxRecDepth 20000 in
theorem gt_574 : (.lays RM "LoanDeskModel" "month" "I" : Cond) ∈ lw_tbl := List.mem_append_right _ (List.mem_of_getElem? (i := 599) rfl)
set_option maxRecDepth 20000 in
theorem gt_575 : ((Jvm.Cond.soleField "LoanDeskModel" "month") : Cond) ∈ lw_tbl := List.mem_append_right _ (List.mem_of_getElem? (i := 600) rfl)
set_option maxRecDepth 20000 in
theorem gt_576 : (.lays RM "LoanDeskModel" "number" "I" : Cond) ∈ lw_tbl := List.mem_append_right _ (List.mem_of_getElem? (i := 601) rfl)
set_option maxRecDepth 20000 in
theorem gt_577 : ((Jvm.Cond.soleField "LoanDeskModel" "number") : Cond) ∈ lw_tbl := List.mem_append_right _ (List.mem_of_getElem? (i := 602) rfl)
set_option maxRecDepth 20000 in
theorem gt_578 : ((Jvm.Cond.superclass "LoanDeskModel" "java/lang/Object") : Cond) ∈ lw_tbl := List.mem_append_right _ (List.mem_of_getElem? (i := 603) rfl)
set_option maxRecDepth 20000 in
theorem gt_579 : (.arrayClass .boolean : Cond) ∈ lw_tbl := List.mem_append_right _ (List.mem_of_getElem? (i := 604) rfl)
set_option maxRecDepth 20000 in
theorem gt_580 : (.methodLink RL 78 yM_thrown : Cond) ∈ lw_tbl := List.mem_append_right _ (List.mem_of_getElem? (i := 605) rfl)
set_option maxRecDepth 20000 in
theorem gt_581 : (.instanceMethod yM_thrown : Cond) ∈ lw_tbl := List.mem_append_right _ (List.mem_of_getElem? (i := 606) rfl)
set_option maxRecDepth 20000 in
theorem gt_582 : (.selects RM yM_thrown yM_thrown : Cond) ∈ lw_tbl := List.mem_append_right _ (List.mem_of_getElem? (i := 607) rfl)
set_option maxRecDepth 20000 in
theorem gt_583 : (.code yM_thrown cM_thrown 1 (some .int) : Cond) ∈ lw_tbl := List.mem_append_right _ (List.mem_of_getElem? (i := 608) rfl)
set_option maxRecDepth 20000 in
theorem gt_584 : (.methodLink RL 100 yM_date : Cond) ∈ lw_tbl := List.mem_append_right _ (List.mem_of_getElem? (i := 609) rfl)
set_option maxRecDepth 20000 in
theorem gt_585 : (.instanceMethod yM_date : Cond) ∈ lw_tbl := List.mem_append_right _ (List.mem_of_getElem? (i := 610) rfl)
set_option maxRecDepth 20000 in
theorem gt_586 : (.selects RM yM_date yM_date : Cond) ∈ lw_tbl := List.mem_append_right _ (List.mem_of_getElem? (i := 611) rfl)
set_option maxRecDepth 20000 in
theorem gt_587 : (.code yM_date cM_date 1 (some .int) : Cond) ∈ lw_tbl := List.mem_append_right _ (List.mem_of_getElem? (i := 612) rfl)
set_option maxRecDepth 20000 in
theorem gt_588 : (.methodLink RM 98 yM_find : Cond) ∈ lw_tbl := List.mem_append_right _ (List.mem_of_getElem? (i := 613) rfl)
set_option maxRecDepth 20000 in
theorem gt_589 : (.instanceMethod yM_find : Cond) ∈ lw_tbl := List.mem_append_right _ (List.mem_of_getElem? (i := 615) rfl)
set_option maxRecDepth 20000 in
theorem gt_590 : (.code yM_find cM_find 3 none : Cond) ∈ lw_tbl := List.mem_append_right _ (List.mem_of_getElem? (i := 616) rfl)
set_option maxRecDepth 20000 in
theorem gt_591 : (.methodLink RM 81 yM_daysOf : Cond) ∈ lw_tbl := List.mem_append_right _ (List.mem_of_getElem? (i := 617) rfl)
set_option maxRecDepth 20000 in
theorem gt_592 : (.static yM_daysOf : Cond) ∈ lw_tbl := List.mem_append_right _ (List.mem_of_getElem? (i := 618) rfl)
set_option maxRecDepth 20000 in
theorem gt_593 : (.code yM_daysOf cM_daysOf 1 (some .int) : Cond) ∈ lw_tbl := List.mem_append_right _ (List.mem_of_getElem? (i := 619) rfl)
set_option maxRecDepth 20000 in
theorem gt_594 : (.methodLink RM 91 yM_daysIn : Cond) ∈ lw_tbl := List.mem_append_right _ (List.mem_of_getElem? (i := 620) rfl)
set_option maxRecDepth 20000 in
theorem gt_595 : (.static yM_daysIn : Cond) ∈ lw_tbl := List.mem_append_right _ (List.mem_of_getElem? (i := 621) rfl)
set_option maxRecDepth 20000 in
theorem gt_596 : (.code yM_daysIn cM_daysIn 2 (some .int) : Cond) ∈ lw_tbl := List.mem_append_right _ (List.mem_of_getElem? (i := 622) rfl)
set_option maxRecDepth 20000 in
theorem gt_597 : (.methodLink RL 132 yM_interest : Cond) ∈ lw_tbl := List.mem_append_right _ (List.mem_of_getElem? (i := 623) rfl)
set_option maxRecDepth 20000 in
theorem gt_598 : (.instanceMethod yM_interest : Cond) ∈ lw_tbl := List.mem_append_right _ (List.mem_of_getElem? (i := 624) rfl)
set_option maxRecDepth 20000 in
theorem gt_599 : (.selects RM yM_interest yM_interest : Cond) ∈ lw_tbl := List.mem_append_right _ (List.mem_of_getElem? (i := 625) rfl)
theorem gtc_14 : ∀ w ∈ GW_14, w ∈ lw_tbl := List.forall_mem_cons.mpr ⟨gt_560, List.forall_mem_cons.mpr ⟨gt_561, List.forall_mem_cons.mpr ⟨gt_562, List.forall_mem_cons.mpr ⟨gt_563, List.forall_mem_cons.mpr ⟨gt_564, List.forall_mem_cons.mpr ⟨gt_565, List.forall_mem_cons.mpr ⟨gt_566, List.forall_mem_cons.mpr ⟨gt_567, List.forall_mem_cons.mpr ⟨gt_568, List.forall_mem_cons.mpr ⟨gt_569, List.forall_mem_cons.mpr ⟨gt_570, List.forall_mem_cons.mpr ⟨gt_571, List.forall_mem_cons.mpr ⟨gt_572, List.forall_mem_cons.mpr ⟨gt_573, List.forall_mem_cons.mpr ⟨gt_574, List.forall_mem_cons.mpr ⟨gt_575, List.forall_mem_cons.mpr ⟨gt_576, List.forall_mem_cons.mpr ⟨gt_577, List.forall_mem_cons.mpr ⟨gt_578, List.forall_mem_cons.mpr ⟨gt_579, List.forall_mem_cons.mpr ⟨gt_580, List.forall_mem_cons.mpr ⟨gt_581, List.forall_mem_cons.mpr ⟨gt_582, List.forall_mem_cons.mpr ⟨gt_583, List.forall_mem_cons.mpr ⟨gt_584, List.forall_mem_cons.mpr ⟨gt_585, List.forall_mem_cons.mpr ⟨gt_586, List.forall_mem_cons.mpr ⟨gt_587, List.forall_mem_cons.mpr ⟨gt_588, List.forall_mem_cons.mpr ⟨gt_589, List.forall_mem_cons.mpr ⟨gt_590, List.forall_mem_cons.mpr ⟨gt_591, List.forall_mem_cons.mpr ⟨gt_592, List.forall_mem_cons.mpr ⟨gt_593, List.forall_mem_cons.mpr ⟨gt_594, List.forall_mem_cons.mpr ⟨gt_595, List.forall_mem_cons.mpr ⟨gt_596, List.forall_mem_cons.mpr ⟨gt_597, List.forall_mem_cons.mpr ⟨gt_598, List.forall_mem_cons.mpr ⟨gt_599, fun _ h => absurd h List.not_mem_nil⟩⟩⟩⟩⟩⟩⟩⟩⟩⟩⟩⟩⟩⟩⟩⟩⟩⟩⟩⟩⟩⟩⟩⟩⟩⟩⟩⟩⟩⟩⟩⟩⟩⟩⟩⟩⟩⟩⟩⟩
set_option maxRecDepth 20000 in
theorem gt_600 : (.code yM_interest cM_interest 8 (some .int) : Cond) ∈ lw_tbl := List.mem_append_right _ (List.mem_of_getElem? (i := 626) rfl)
set_option maxRecDepth 20000 in
theorem gt_601 : (.constant RM 133 (100000000) : Cond) ∈ lw_tbl := List.mem_append_right _ (List.mem_of_getElem? (i := 627) rfl)
set_option maxRecDepth 20000 in
theorem gt_602 : (.methodLink RM 134 yM_within : Cond) ∈ lw_tbl := List.mem_append_right _ (List.mem_of_getElem? (i := 628) rfl)
set_option maxRecDepth 20000 in
theorem gt_603 : (.static yM_within : Cond) ∈ lw_tbl := List.mem_append_right _ (List.mem_of_getElem? (i := 629) rfl)
set_option maxRecDepth 20000 in
theorem gt_604 : (.code yM_within cM_within 3 (some .boolean) : Cond) ∈ lw_tbl := List.mem_append_right _ (List.mem_of_getElem? (i := 630) rfl)
set_option maxRecDepth 20000 in
theorem gt_605 : (.methodLink RM 138 yM_interestOn : Cond) ∈ lw_tbl := List.mem_append_right _ (List.mem_of_getElem? (i := 631) rfl)
set_option maxRecDepth 20000 in
theorem gt_606 : (.instanceMethod yM_interestOn : Cond) ∈ lw_tbl := List.mem_append_right _ (List.mem_of_getElem? (i := 633) rfl)
set_option maxRecDepth 20000 in
theorem gt_607 : (.code yM_interestOn cM_interestOn 7 (some .int) : Cond) ∈ lw_tbl := List.mem_append_right _ (List.mem_of_getElem? (i := 634) rfl)
set_option maxRecDepth 20000 in
theorem gt_608 : (.methodLink RM 119 yM_span : Cond) ∈ lw_tbl := List.mem_append_right _ (List.mem_of_getElem? (i := 635) rfl)
set_option maxRecDepth 20000 in
theorem gt_609 : (.instanceMethod yM_span : Cond) ∈ lw_tbl := List.mem_append_right _ (List.mem_of_getElem? (i := 637) rfl)
set_option maxRecDepth 20000 in
theorem gt_610 : (.code yM_span cM_span 11 (some .long) : Cond) ∈ lw_tbl := List.mem_append_right _ (List.mem_of_getElem? (i := 638) rfl)
set_option maxRecDepth 20000 in
theorem gt_611 : (.constantLong RM 109 (365) : Cond) ∈ lw_tbl := List.mem_append_right _ (List.mem_of_getElem? (i := 639) rfl)
set_option maxRecDepth 20000 in
theorem gt_612 : (.constantLong RM 115 (366) : Cond) ∈ lw_tbl := List.mem_append_right _ (List.mem_of_getElem? (i := 640) rfl)
set_option maxRecDepth 20000 in
theorem gt_613 : (.constantLong RM 123 (100000) : Cond) ∈ lw_tbl := List.mem_append_right _ (List.mem_of_getElem? (i := 641) rfl)
set_option maxRecDepth 20000 in
theorem gt_614 : (.methodLink RM 125 yM_under : Cond) ∈ lw_tbl := List.mem_append_right _ (List.mem_of_getElem? (i := 642) rfl)
set_option maxRecDepth 20000 in
theorem gt_615 : (.static yM_under : Cond) ∈ lw_tbl := List.mem_append_right _ (List.mem_of_getElem? (i := 643) rfl)
set_option maxRecDepth 20000 in
theorem gt_616 : (.code yM_under cM_under 1 (some .long) : Cond) ∈ lw_tbl := List.mem_append_right _ (List.mem_of_getElem? (i := 644) rfl)
set_option maxRecDepth 20000 in
theorem gt_617 : (.constantLong RM 111 (133590) : Cond) ∈ lw_tbl := List.mem_append_right _ (List.mem_of_getElem? (i := 645) rfl)
set_option maxRecDepth 20000 in
theorem gt_618 : (.constantLong RM 113 (360) : Cond) ∈ lw_tbl := List.mem_append_right _ (List.mem_of_getElem? (i := 646) rfl)
set_option maxRecDepth 20000 in
theorem gt_619 : (.methodLink RM 129 yM_rounded : Cond) ∈ lw_tbl := List.mem_append_right _ (List.mem_of_getElem? (i := 647) rfl)
set_option maxRecDepth 20000 in
theorem gt_620 : (.static yM_rounded : Cond) ∈ lw_tbl := List.mem_append_right _ (List.mem_of_getElem? (i := 648) rfl)
set_option maxRecDepth 20000 in
theorem gt_621 : (.code yM_rounded cM_rounded 10 (some .long) : Cond) ∈ lw_tbl := List.mem_append_right _ (List.mem_of_getElem? (i := 649) rfl)
set_option maxRecDepth 20000 in
theorem gt_622 : (.constantLong RM 117 (2) : Cond) ∈ lw_tbl := List.mem_append_right _ (List.mem_of_getElem? (i := 650) rfl)
set_option maxRecDepth 20000 in
theorem gt_623 : (.methodLink RL 77 yM_open : Cond) ∈ lw_tbl := List.mem_append_right _ (List.mem_of_getElem? (i := 651) rfl)
set_option maxRecDepth 20000 in
theorem gt_624 : (.instanceMethod yM_open : Cond) ∈ lw_tbl := List.mem_append_right _ (List.mem_of_getElem? (i := 652) rfl)
set_option maxRecDepth 20000 in
theorem gt_625 : (.selects RM yM_open yM_open : Cond) ∈ lw_tbl := List.mem_append_right _ (List.mem_of_getElem? (i := 653) rfl)
set_option maxRecDepth 20000 in
theorem gt_626 : (.code yM_open cM_open 9 (some .int) : Cond) ∈ lw_tbl := List.mem_append_right _ (List.mem_of_getElem? (i := 654) rfl)
set_option maxRecDepth 20000 in
theorem gt_627 : (.methodLink RM 163 yM_reckon : Cond) ∈ lw_tbl := List.mem_append_right _ (List.mem_of_getElem? (i := 655) rfl)
set_option maxRecDepth 20000 in
theorem gt_628 : (.instanceMethod yM_reckon : Cond) ∈ lw_tbl := List.mem_append_right _ (List.mem_of_getElem? (i := 657) rfl)
set_option maxRecDepth 20000 in
theorem gt_629 : (.code yM_reckon cM_reckon 6 none : Cond) ∈ lw_tbl := List.mem_append_right _ (List.mem_of_getElem? (i := 658) rfl)
set_option maxRecDepth 20000 in
theorem gt_630 : (.methodLink RM 152 yM_firstBehind : Cond) ∈ lw_tbl := List.mem_append_right _ (List.mem_of_getElem? (i := 659) rfl)
set_option maxRecDepth 20000 in
theorem gt_631 : (.instanceMethod yM_firstBehind : Cond) ∈ lw_tbl := List.mem_append_right _ (List.mem_of_getElem? (i := 661) rfl)
set_option maxRecDepth 20000 in
theorem gt_632 : (.code yM_firstBehind cM_firstBehind 3 (some .int) : Cond) ∈ lw_tbl := List.mem_append_right _ (List.mem_of_getElem? (i := 662) rfl)
set_option maxRecDepth 20000 in
theorem gt_633 : (.methodLink RM 142 yM_monthsSince : Cond) ∈ lw_tbl := List.mem_append_right _ (List.mem_of_getElem? (i := 663) rfl)
set_option maxRecDepth 20000 in
theorem gt_634 : (.instanceMethod yM_monthsSince : Cond) ∈ lw_tbl := List.mem_append_right _ (List.mem_of_getElem? (i := 665) rfl)
set_option maxRecDepth 20000 in
theorem gt_635 : (.code yM_monthsSince cM_monthsSince 3 (some .int) : Cond) ∈ lw_tbl := List.mem_append_right _ (List.mem_of_getElem? (i := 666) rfl)
set_option maxRecDepth 20000 in
theorem gt_636 : (.methodLink RM 145 yM_dueDay : Cond) ∈ lw_tbl := List.mem_append_right _ (List.mem_of_getElem? (i := 667) rfl)
set_option maxRecDepth 20000 in
theorem gt_637 : (.instanceMethod yM_dueDay : Cond) ∈ lw_tbl := List.mem_append_right _ (List.mem_of_getElem? (i := 669) rfl)
set_option maxRecDepth 20000 in
theorem gt_638 : (.code yM_dueDay cM_dueDay 7 (some .int) : Cond) ∈ lw_tbl := List.mem_append_right _ (List.mem_of_getElem? (i := 670) rfl)
set_option maxRecDepth 20000 in
theorem gt_639 : (.methodLink RM 102 yM_dayOf : Cond) ∈ lw_tbl := List.mem_append_right _ (List.mem_of_getElem? (i := 671) rfl)
theorem gtc_15 : ∀ w ∈ GW_15, w ∈ lw_tbl := List.forall_mem_cons.mpr ⟨gt_600, List.forall_mem_cons.mpr ⟨gt_601, List.forall_mem_cons.mpr ⟨gt_602, List.forall_mem_cons.mpr ⟨gt_603, List.forall_mem_cons.mpr ⟨gt_604, List.forall_mem_cons.mpr ⟨gt_605, List.forall_mem_cons.mpr ⟨gt_606, List.forall_mem_cons.mpr ⟨gt_607, List.forall_mem_cons.mpr ⟨gt_608, List.forall_mem_cons.mpr ⟨gt_609, List.forall_mem_cons.mpr ⟨gt_610, List.forall_mem_cons.mpr ⟨gt_611, List.forall_mem_cons.mpr ⟨gt_612, List.forall_mem_cons.mpr ⟨gt_613, List.forall_mem_cons.mpr ⟨gt_614, List.forall_mem_cons.mpr ⟨gt_615, List.forall_mem_cons.mpr ⟨gt_616, List.forall_mem_cons.mpr ⟨gt_617, List.forall_mem_cons.mpr ⟨gt_618, List.forall_mem_cons.mpr ⟨gt_619, List.forall_mem_cons.mpr ⟨gt_620, List.forall_mem_cons.mpr ⟨gt_621, List.forall_mem_cons.mpr ⟨gt_622, List.forall_mem_cons.mpr ⟨gt_623, List.forall_mem_cons.mpr ⟨gt_624, List.forall_mem_cons.mpr ⟨gt_625, List.forall_mem_cons.mpr ⟨gt_626, List.forall_mem_cons.mpr ⟨gt_627, List.forall_mem_cons.mpr ⟨gt_628, List.forall_mem_cons.mpr ⟨gt_629, List.forall_mem_cons.mpr ⟨gt_630, List.forall_mem_cons.mpr ⟨gt_631, List.forall_mem_cons.mpr ⟨gt_632, List.forall_mem_cons.mpr ⟨gt_633, List.forall_mem_cons.mpr ⟨gt_634, List.forall_mem_cons.mpr ⟨gt_635, List.forall_mem_cons.mpr ⟨gt_636, List.forall_mem_cons.mpr ⟨gt_637, List.forall_mem_cons.mpr ⟨gt_638, List.forall_mem_cons.mpr ⟨gt_639, fun _ h => absurd h List.not_mem_nil⟩⟩⟩⟩⟩⟩⟩⟩⟩⟩⟩⟩⟩⟩⟩⟩⟩⟩⟩⟩⟩⟩⟩⟩⟩⟩⟩⟩⟩⟩⟩⟩⟩⟩⟩⟩⟩⟩⟩⟩
set_option maxRecDepth 20000 in
theorem gt_640 : (.static yM_dayOf : Cond) ∈ lw_tbl := List.mem_append_right _ (List.mem_of_getElem? (i := 672) rfl)
set_option maxRecDepth 20000 in
theorem gt_641 : (.code yM_dayOf cM_dayOf 5 (some .int) : Cond) ∈ lw_tbl := List.mem_append_right _ (List.mem_of_getElem? (i := 673) rfl)
set_option maxRecDepth 20000 in
theorem gt_642 : (.constant RM 155 (134217728) : Cond) ∈ lw_tbl := List.mem_append_right _ (List.mem_of_getElem? (i := 674) rfl)
set_option maxRecDepth 20000 in
theorem gt_643 : (.methodLink RM 156 yM_leaves : Cond) ∈ lw_tbl := List.mem_append_right _ (List.mem_of_getElem? (i := 675) rfl)
set_option maxRecDepth 20000 in
theorem gt_644 : (.instanceMethod yM_leaves : Cond) ∈ lw_tbl := List.mem_append_right _ (List.mem_of_getElem? (i := 677) rfl)
set_option maxRecDepth 20000 in
theorem gt_645 : (.code yM_leaves cM_leaves 10 (some .boolean) : Cond) ∈ lw_tbl := List.mem_append_right _ (List.mem_of_getElem? (i := 678) rfl)
set_option maxRecDepth 20000 in
theorem gt_646 : (.methodLink RM 148 yM_own : Cond) ∈ lw_tbl := List.mem_append_right _ (List.mem_of_getElem? (i := 679) rfl)
set_option maxRecDepth 20000 in
theorem gt_647 : (.instanceMethod yM_own : Cond) ∈ lw_tbl := List.mem_append_right _ (List.mem_of_getElem? (i := 681) rfl)
set_option maxRecDepth 20000 in
theorem gt_648 : (.code yM_own cM_own 5 (some .int) : Cond) ∈ lw_tbl := List.mem_append_right _ (List.mem_of_getElem? (i := 682) rfl)
set_option maxRecDepth 20000 in
theorem gt_649 : (.methodLink RL 85 yM_charge : Cond) ∈ lw_tbl := List.mem_append_right _ (List.mem_of_getElem? (i := 683) rfl)
set_option maxRecDepth 20000 in
theorem gt_650 : (.instanceMethod yM_charge : Cond) ∈ lw_tbl := List.mem_append_right _ (List.mem_of_getElem? (i := 684) rfl)
set_option maxRecDepth 20000 in
theorem gt_651 : (.selects RM yM_charge yM_charge : Cond) ∈ lw_tbl := List.mem_append_right _ (List.mem_of_getElem? (i := 685) rfl)
set_option maxRecDepth 20000 in
theorem gt_652 : (.code yM_charge cM_charge 3 none : Cond) ∈ lw_tbl := List.mem_append_right _ (List.mem_of_getElem? (i := 686) rfl)
set_option maxRecDepth 20000 in
theorem gt_653 : (.methodLink RM 167 yM_none : Cond) ∈ lw_tbl := List.mem_append_right _ (List.mem_of_getElem? (i := 687) rfl)
set_option maxRecDepth 20000 in
theorem gt_654 : (.instanceMethod yM_none : Cond) ∈ lw_tbl := List.mem_append_right _ (List.mem_of_getElem? (i := 689) rfl)
set_option maxRecDepth 20000 in
theorem gt_655 : (.code yM_none cM_none 2 (some .boolean) : Cond) ∈ lw_tbl := List.mem_append_right _ (List.mem_of_getElem? (i := 690) rfl)
set_option maxRecDepth 20000 in
theorem gt_656 : (.constant RM 171 (10000000) : Cond) ∈ lw_tbl := List.mem_append_right _ (List.mem_of_getElem? (i := 691) rfl)
set_option maxRecDepth 20000 in
theorem gt_657 : (.methodLink RM 172 yM_twelfth : Cond) ∈ lw_tbl := List.mem_append_right _ (List.mem_of_getElem? (i := 692) rfl)
set_option maxRecDepth 20000 in
theorem gt_658 : (.static yM_twelfth : Cond) ∈ lw_tbl := List.mem_append_right _ (List.mem_of_getElem? (i := 693) rfl)
set_option maxRecDepth 20000 in
theorem gt_659 : (.code yM_twelfth cM_twelfth 1 (some .int) : Cond) ∈ lw_tbl := List.mem_append_right _ (List.mem_of_getElem? (i := 694) rfl)
set_option maxRecDepth 20000 in
theorem gt_660 : (.methodLink RL 89 yM_advance : Cond) ∈ lw_tbl := List.mem_append_right _ (List.mem_of_getElem? (i := 695) rfl)
set_option maxRecDepth 20000 in
theorem gt_661 : (.instanceMethod yM_advance : Cond) ∈ lw_tbl := List.mem_append_right _ (List.mem_of_getElem? (i := 696) rfl)
set_option maxRecDepth 20000 in
theorem gt_662 : (.selects RM yM_advance yM_advance : Cond) ∈ lw_tbl := List.mem_append_right _ (List.mem_of_getElem? (i := 697) rfl)
set_option maxRecDepth 20000 in
theorem gt_663 : (.code yM_advance cM_advance 5 (some .int) : Cond) ∈ lw_tbl := List.mem_append_right _ (List.mem_of_getElem? (i := 698) rfl)
set_option maxRecDepth 20000 in
theorem gt_664 : (.methodLink RM 190 yM_dayOfLoan : Cond) ∈ lw_tbl := List.mem_append_right _ (List.mem_of_getElem? (i := 699) rfl)
set_option maxRecDepth 20000 in
theorem gt_665 : (.instanceMethod yM_dayOfLoan : Cond) ∈ lw_tbl := List.mem_append_right _ (List.mem_of_getElem? (i := 701) rfl)
set_option maxRecDepth 20000 in
theorem gt_666 : (.code yM_dayOfLoan cM_dayOfLoan 5 (some .int) : Cond) ∈ lw_tbl := List.mem_append_right _ (List.mem_of_getElem? (i := 702) rfl)
set_option maxRecDepth 20000 in
theorem gt_667 : (.methodLink RM 175 yM_billedOn : Cond) ∈ lw_tbl := List.mem_append_right _ (List.mem_of_getElem? (i := 703) rfl)
set_option maxRecDepth 20000 in
theorem gt_668 : (.instanceMethod yM_billedOn : Cond) ∈ lw_tbl := List.mem_append_right _ (List.mem_of_getElem? (i := 705) rfl)
set_option maxRecDepth 20000 in
theorem gt_669 : (.code yM_billedOn cM_billedOn 5 (some .boolean) : Cond) ∈ lw_tbl := List.mem_append_right _ (List.mem_of_getElem? (i := 706) rfl)
set_option maxRecDepth 20000 in
theorem gt_670 : (.constantLong RM 179 (20) : Cond) ∈ lw_tbl := List.mem_append_right _ (List.mem_of_getElem? (i := 707) rfl)
set_option maxRecDepth 20000 in
theorem gt_671 : (.methodLink RM 181 yM_whichDue : Cond) ∈ lw_tbl := List.mem_append_right _ (List.mem_of_getElem? (i := 708) rfl)
set_option maxRecDepth 20000 in
theorem gt_672 : (.instanceMethod yM_whichDue : Cond) ∈ lw_tbl := List.mem_append_right _ (List.mem_of_getElem? (i := 710) rfl)
set_option maxRecDepth 20000 in
theorem gt_673 : (.code yM_whichDue cM_whichDue 3 (some .int) : Cond) ∈ lw_tbl := List.mem_append_right _ (List.mem_of_getElem? (i := 711) rfl)
set_option maxRecDepth 20000 in
theorem gt_674 : (.methodLink RM 184 yM_accrue : Cond) ∈ lw_tbl := List.mem_append_right _ (List.mem_of_getElem? (i := 712) rfl)
set_option maxRecDepth 20000 in
theorem gt_675 : (.instanceMethod yM_accrue : Cond) ∈ lw_tbl := List.mem_append_right _ (List.mem_of_getElem? (i := 714) rfl)
set_option maxRecDepth 20000 in
theorem gt_676 : (.code yM_accrue cM_accrue 2 none : Cond) ∈ lw_tbl := List.mem_append_right _ (List.mem_of_getElem? (i := 715) rfl)
set_option maxRecDepth 20000 in
theorem gt_677 : (.methodLink RM 187 yM_makeBill : Cond) ∈ lw_tbl := List.mem_append_right _ (List.mem_of_getElem? (i := 716) rfl)
set_option maxRecDepth 20000 in
theorem gt_678 : (.instanceMethod yM_makeBill : Cond) ∈ lw_tbl := List.mem_append_right _ (List.mem_of_getElem? (i := 718) rfl)
set_option maxRecDepth 20000 in
theorem gt_679 : (.code yM_makeBill cM_makeBill 8 none : Cond) ∈ lw_tbl := List.mem_append_right _ (List.mem_of_getElem? (i := 719) rfl)
theorem gtc_16 : ∀ w ∈ GW_16, w ∈ lw_tbl := List.forall_mem_cons.mpr ⟨gt_640, List.forall_mem_cons.mpr ⟨gt_641, List.forall_mem_cons.mpr ⟨gt_642, List.forall_mem_cons.mpr ⟨gt_643, List.forall_mem_cons.mpr ⟨gt_644, List.forall_mem_cons.mpr ⟨gt_645, List.forall_mem_cons.mpr ⟨gt_646, List.forall_mem_cons.mpr ⟨gt_647, List.forall_mem_cons.mpr ⟨gt_648, List.forall_mem_cons.mpr ⟨gt_649, List.forall_mem_cons.mpr ⟨gt_650, List.forall_mem_cons.mpr ⟨gt_651, List.forall_mem_cons.mpr ⟨gt_652, List.forall_mem_cons.mpr ⟨gt_653, List.forall_mem_cons.mpr ⟨gt_654, List.forall_mem_cons.mpr ⟨gt_655, List.forall_mem_cons.mpr ⟨gt_656, List.forall_mem_cons.mpr ⟨gt_657, List.forall_mem_cons.mpr ⟨gt_658, List.forall_mem_cons.mpr ⟨gt_659, List.forall_mem_cons.mpr ⟨gt_660, List.forall_mem_cons.mpr ⟨gt_661, List.forall_mem_cons.mpr ⟨gt_662, List.forall_mem_cons.mpr ⟨gt_663, List.forall_mem_cons.mpr ⟨gt_664, List.forall_mem_cons.mpr ⟨gt_665, List.forall_mem_cons.mpr ⟨gt_666, List.forall_mem_cons.mpr ⟨gt_667, List.forall_mem_cons.mpr ⟨gt_668, List.forall_mem_cons.mpr ⟨gt_669, List.forall_mem_cons.mpr ⟨gt_670, List.forall_mem_cons.mpr ⟨gt_671, List.forall_mem_cons.mpr ⟨gt_672, List.forall_mem_cons.mpr ⟨gt_673, List.forall_mem_cons.mpr ⟨gt_674, List.forall_mem_cons.mpr ⟨gt_675, List.forall_mem_cons.mpr ⟨gt_676, List.forall_mem_cons.mpr ⟨gt_677, List.forall_mem_cons.mpr ⟨gt_678, List.forall_mem_cons.mpr ⟨gt_679, fun _ h => absurd h List.not_mem_nil⟩⟩⟩⟩⟩⟩⟩⟩⟩⟩⟩⟩⟩⟩⟩⟩⟩⟩⟩⟩⟩⟩⟩⟩⟩⟩⟩⟩⟩⟩⟩⟩⟩⟩⟩⟩⟩⟩⟩⟩
set_option maxRecDepth 20000 in
theorem gt_680 : (.methodLink RL 93 yM_pay : Cond) ∈ lw_tbl := List.mem_append_right _ (List.mem_of_getElem? (i := 720) rfl)
set_option maxRecDepth 20000 in
theorem gt_681 : (.instanceMethod yM_pay : Cond) ∈ lw_tbl := List.mem_append_right _ (List.mem_of_getElem? (i := 721) rfl)
set_option maxRecDepth 20000 in
theorem gt_682 : (.selects RM yM_pay yM_pay : Cond) ∈ lw_tbl := List.mem_append_right _ (List.mem_of_getElem? (i := 722) rfl)
set_option maxRecDepth 20000 in
theorem gt_683 : (.code yM_pay cM_pay 7 (some .int) : Cond) ∈ lw_tbl := List.mem_append_right _ (List.mem_of_getElem? (i := 723) rfl)
set_option maxRecDepth 20000 in
theorem gt_684 : (.constant RM 193 (200000000) : Cond) ∈ lw_tbl := List.mem_append_right _ (List.mem_of_getElem? (i := 724) rfl)
set_option maxRecDepth 20000 in
theorem gt_685 : (.methodLink RL 96 yM_part : Cond) ∈ lw_tbl := List.mem_append_right _ (List.mem_of_getElem? (i := 725) rfl)
set_option maxRecDepth 20000 in
theorem gt_686 : (.instanceMethod yM_part : Cond) ∈ lw_tbl := List.mem_append_right _ (List.mem_of_getElem? (i := 726) rfl)
set_option maxRecDepth 20000 in
theorem gt_687 : (.selects RM yM_part yM_part : Cond) ∈ lw_tbl := List.mem_append_right _ (List.mem_of_getElem? (i := 727) rfl)
set_option maxRecDepth 20000 in
theorem gt_688 : (.code yM_part cM_part 3 (some .int) : Cond) ∈ lw_tbl := List.mem_append_right _ (List.mem_of_getElem? (i := 728) rfl)
set_option maxRecDepth 20000 in
theorem gt_689 : (.methodLink RL 103 yM_due : Cond) ∈ lw_tbl := List.mem_append_right _ (List.mem_of_getElem? (i := 729) rfl)
set_option maxRecDepth 20000 in
theorem gt_690 : (.instanceMethod yM_due : Cond) ∈ lw_tbl := List.mem_append_right _ (List.mem_of_getElem? (i := 730) rfl)
set_option maxRecDepth 20000 in
theorem gt_691 : (.selects RM yM_due yM_due : Cond) ∈ lw_tbl := List.mem_append_right _ (List.mem_of_getElem? (i := 731) rfl)
set_option maxRecDepth 20000 in
theorem gt_692 : (.code yM_due cM_due 3 (some .int) : Cond) ∈ lw_tbl := List.mem_append_right _ (List.mem_of_getElem? (i := 732) rfl)
set_option maxRecDepth 20000 in
theorem gt_693 : (.methodLink RL 106 yM_principal : Cond) ∈ lw_tbl := List.mem_append_right _ (List.mem_of_getElem? (i := 733) rfl)
set_option maxRecDepth 20000 in
theorem gt_694 : (.instanceMethod yM_principal : Cond) ∈ lw_tbl := List.mem_append_right _ (List.mem_of_getElem? (i := 734) rfl)
set_option maxRecDepth 20000 in
theorem gt_695 : (.selects RM yM_principal yM_principal : Cond) ∈ lw_tbl := List.mem_append_right _ (List.mem_of_getElem? (i := 735) rfl)
set_option maxRecDepth 20000 in
theorem gt_696 : (.code yM_principal cM_principal 3 (some .int) : Cond) ∈ lw_tbl := List.mem_append_right _ (List.mem_of_getElem? (i := 736) rfl)
set_option maxRecDepth 20000 in
theorem gt_697 : (.methodLink RM 194 yM_at : Cond) ∈ lw_tbl := List.mem_append_right _ (List.mem_of_getElem? (i := 737) rfl)
set_option maxRecDepth 20000 in
theorem gt_698 : (.instanceMethod yM_at : Cond) ∈ lw_tbl := List.mem_append_right _ (List.mem_of_getElem? (i := 739) rfl)
set_option maxRecDepth 20000 in
theorem gt_699 : (.code yM_at cM_at 2 (some .int) : Cond) ∈ lw_tbl := List.mem_append_right _ (List.mem_of_getElem? (i := 740) rfl)
set_option maxRecDepth 20000 in
theorem gt_700 : (.methodLink RM 197 yM_seen : Cond) ∈ lw_tbl := List.mem_append_right _ (List.mem_of_getElem? (i := 741) rfl)
set_option maxRecDepth 20000 in
theorem gt_701 : (.instanceMethod yM_seen : Cond) ∈ lw_tbl := List.mem_append_right _ (List.mem_of_getElem? (i := 743) rfl)
set_option maxRecDepth 20000 in
theorem gt_702 : (.code yM_seen cM_seen 3 (some .int) : Cond) ∈ lw_tbl := List.mem_append_right _ (List.mem_of_getElem? (i := 744) rfl)
set_option maxRecDepth 20000 in
theorem gt_703 : (.methodLink RL 109 yM_level : Cond) ∈ lw_tbl := List.mem_append_right _ (List.mem_of_getElem? (i := 745) rfl)
set_option maxRecDepth 20000 in
theorem gt_704 : (.instanceMethod yM_level : Cond) ∈ lw_tbl := List.mem_append_right _ (List.mem_of_getElem? (i := 746) rfl)
set_option maxRecDepth 20000 in
theorem gt_705 : (.selects RM yM_level yM_level : Cond) ∈ lw_tbl := List.mem_append_right _ (List.mem_of_getElem? (i := 747) rfl)
set_option maxRecDepth 20000 in
theorem gt_706 : (.code yM_level cM_level 3 (some .int) : Cond) ∈ lw_tbl := List.mem_append_right _ (List.mem_of_getElem? (i := 748) rfl)
set_option maxRecDepth 20000 in
theorem gt_707 : (.methodLink RL 112 yM_accrued : Cond) ∈ lw_tbl := List.mem_append_right _ (List.mem_of_getElem? (i := 749) rfl)
set_option maxRecDepth 20000 in
theorem gt_708 : (.instanceMethod yM_accrued : Cond) ∈ lw_tbl := List.mem_append_right _ (List.mem_of_getElem? (i := 750) rfl)
set_option maxRecDepth 20000 in
theorem gt_709 : (.selects RM yM_accrued yM_accrued : Cond) ∈ lw_tbl := List.mem_append_right _ (List.mem_of_getElem? (i := 751) rfl)
set_option maxRecDepth 20000 in
theorem gt_710 : (.code yM_accrued cM_accrued 3 (some .int) : Cond) ∈ lw_tbl := List.mem_append_right _ (List.mem_of_getElem? (i := 752) rfl)
set_option maxRecDepth 20000 in
theorem gt_711 : (.methodLink RL 115 yM_owed : Cond) ∈ lw_tbl := List.mem_append_right _ (List.mem_of_getElem? (i := 753) rfl)
set_option maxRecDepth 20000 in
theorem gt_712 : (.instanceMethod yM_owed : Cond) ∈ lw_tbl := List.mem_append_right _ (List.mem_of_getElem? (i := 754) rfl)
set_option maxRecDepth 20000 in
theorem gt_713 : (.selects RM yM_owed yM_owed : Cond) ∈ lw_tbl := List.mem_append_right _ (List.mem_of_getElem? (i := 755) rfl)
set_option maxRecDepth 20000 in
theorem gt_714 : (.code yM_owed cM_owed 3 (some .int) : Cond) ∈ lw_tbl := List.mem_append_right _ (List.mem_of_getElem? (i := 756) rfl)
set_option maxRecDepth 20000 in
theorem gt_715 : (.methodLink RL 118 yM_escrow : Cond) ∈ lw_tbl := List.mem_append_right _ (List.mem_of_getElem? (i := 757) rfl)
set_option maxRecDepth 20000 in
theorem gt_716 : (.instanceMethod yM_escrow : Cond) ∈ lw_tbl := List.mem_append_right _ (List.mem_of_getElem? (i := 758) rfl)
set_option maxRecDepth 20000 in
theorem gt_717 : (.selects RM yM_escrow yM_escrow : Cond) ∈ lw_tbl := List.mem_append_right _ (List.mem_of_getElem? (i := 759) rfl)
set_option maxRecDepth 20000 in
theorem gt_718 : (.code yM_escrow cM_escrow 3 (some .int) : Cond) ∈ lw_tbl := List.mem_append_right _ (List.mem_of_getElem? (i := 760) rfl)
set_option maxRecDepth 20000 in
theorem gt_719 : (.methodLink RL 121 yM_deposit : Cond) ∈ lw_tbl := List.mem_append_right _ (List.mem_of_getElem? (i := 761) rfl)
theorem gtc_17 : ∀ w ∈ GW_17, w ∈ lw_tbl := List.forall_mem_cons.mpr ⟨gt_680, List.forall_mem_cons.mpr ⟨gt_681, List.forall_mem_cons.mpr ⟨gt_682, List.forall_mem_cons.mpr ⟨gt_683, List.forall_mem_cons.mpr ⟨gt_684, List.forall_mem_cons.mpr ⟨gt_685, List.forall_mem_cons.mpr ⟨gt_686, List.forall_mem_cons.mpr ⟨gt_687, List.forall_mem_cons.mpr ⟨gt_688, List.forall_mem_cons.mpr ⟨gt_689, List.forall_mem_cons.mpr ⟨gt_690, List.forall_mem_cons.mpr ⟨gt_691, List.forall_mem_cons.mpr ⟨gt_692, List.forall_mem_cons.mpr ⟨gt_693, List.forall_mem_cons.mpr ⟨gt_694, List.forall_mem_cons.mpr ⟨gt_695, List.forall_mem_cons.mpr ⟨gt_696, List.forall_mem_cons.mpr ⟨gt_697, List.forall_mem_cons.mpr ⟨gt_698, List.forall_mem_cons.mpr ⟨gt_699, List.forall_mem_cons.mpr ⟨gt_700, List.forall_mem_cons.mpr ⟨gt_701, List.forall_mem_cons.mpr ⟨gt_702, List.forall_mem_cons.mpr ⟨gt_703, List.forall_mem_cons.mpr ⟨gt_704, List.forall_mem_cons.mpr ⟨gt_705, List.forall_mem_cons.mpr ⟨gt_706, List.forall_mem_cons.mpr ⟨gt_707, List.forall_mem_cons.mpr ⟨gt_708, List.forall_mem_cons.mpr ⟨gt_709, List.forall_mem_cons.mpr ⟨gt_710, List.forall_mem_cons.mpr ⟨gt_711, List.forall_mem_cons.mpr ⟨gt_712, List.forall_mem_cons.mpr ⟨gt_713, List.forall_mem_cons.mpr ⟨gt_714, List.forall_mem_cons.mpr ⟨gt_715, List.forall_mem_cons.mpr ⟨gt_716, List.forall_mem_cons.mpr ⟨gt_717, List.forall_mem_cons.mpr ⟨gt_718, List.forall_mem_cons.mpr ⟨gt_719, fun _ h => absurd h List.not_mem_nil⟩⟩⟩⟩⟩⟩⟩⟩⟩⟩⟩⟩⟩⟩⟩⟩⟩⟩⟩⟩⟩⟩⟩⟩⟩⟩⟩⟩⟩⟩⟩⟩⟩⟩⟩⟩⟩⟩⟩⟩
set_option maxRecDepth 20000 in
theorem gt_720 : (.instanceMethod yM_deposit : Cond) ∈ lw_tbl := List.mem_append_right _ (List.mem_of_getElem? (i := 762) rfl)
set_option maxRecDepth 20000 in
theorem gt_721 : (.selects RM yM_deposit yM_deposit : Cond) ∈ lw_tbl := List.mem_append_right _ (List.mem_of_getElem? (i := 763) rfl)
set_option maxRecDepth 20000 in
theorem gt_722 : (.code yM_deposit cM_deposit 3 (some .int) : Cond) ∈ lw_tbl := List.mem_append_right _ (List.mem_of_getElem? (i := 764) rfl)
set_option maxRecDepth 20000 in
theorem gt_723 : (.methodLink RL 124 yM_bills : Cond) ∈ lw_tbl := List.mem_append_right _ (List.mem_of_getElem? (i := 765) rfl)
set_option maxRecDepth 20000 in
theorem gt_724 : (.instanceMethod yM_bills : Cond) ∈ lw_tbl := List.mem_append_right _ (List.mem_of_getElem? (i := 766) rfl)
set_option maxRecDepth 20000 in
theorem gt_725 : (.selects RM yM_bills yM_bills : Cond) ∈ lw_tbl := List.mem_append_right _ (List.mem_of_getElem? (i := 767) rfl)
set_option maxRecDepth 20000 in
theorem gt_726 : (.code yM_bills cM_bills 3 (some .int) : Cond) ∈ lw_tbl := List.mem_append_right _ (List.mem_of_getElem? (i := 768) rfl)
set_option maxRecDepth 20000 in
theorem gt_727 : (.methodLink RL 128 yM_bill : Cond) ∈ lw_tbl := List.mem_append_right _ (List.mem_of_getElem? (i := 769) rfl)
set_option maxRecDepth 20000 in
theorem gt_728 : (.instanceMethod yM_bill : Cond) ∈ lw_tbl := List.mem_append_right _ (List.mem_of_getElem? (i := 770) rfl)
set_option maxRecDepth 20000 in
theorem gt_729 : (.selects RM yM_bill yM_bill : Cond) ∈ lw_tbl := List.mem_append_right _ (List.mem_of_getElem? (i := 771) rfl)
set_option maxRecDepth 20000 in
theorem gt_730 : (.code yM_bill cM_bill 5 (some .int) : Cond) ∈ lw_tbl := List.mem_append_right _ (List.mem_of_getElem? (i := 772) rfl)
set_option maxRecDepth 20000 in
theorem gt_731 : (.arrayClass .long : Cond) ∈ lw_tbl := List.mem_append_right _ (List.mem_of_getElem? (i := 773) rfl)
set_option maxRecDepth 20000 in
theorem gt_732 : ((Jvm.Cond.sameMethod "java/lang/Throwable" "java/lang/Throwable" "fillInStackTrace" "(I)Ljava/lang/Throwable;") : Cond) ∈ lw_tbl := List.mem_append_right _ (List.mem_of_getElem? (i := 774) rfl)
set_option maxRecDepth 20000 in
theorem gt_733 : (.selects "java/lang/Throwable" ⟨"java/lang/Throwable", "fillInStackTrace", "(I)Ljava/lang/Throwable;"⟩ ⟨"java/lang/Throwable", "fillInStackTrace", "(I)Ljava/lang/Throwable;"⟩ : Cond) ∈ lw_tbl := List.mem_append_left _ (List.mem_of_getElem? (i := 0) rfl)
set_option maxRecDepth 20000 in
theorem gt_734 : (.selects RN yN_layOutSpans yN_layOutSpans : Cond) ∈ lw_tbl := List.mem_append_left _ (List.mem_of_getElem? (i := 1) rfl)
set_option maxRecDepth 20000 in
theorem gt_735 : (.selects RN yN_leastLevel yN_leastLevel : Cond) ∈ lw_tbl := List.mem_append_left _ (List.mem_of_getElem? (i := 2) rfl)
set_option maxRecDepth 20000 in
theorem gt_736 : (.selects RN yN_leftInTheEnd yN_leftInTheEnd : Cond) ∈ lw_tbl := List.mem_append_left _ (List.mem_of_getElem? (i := 3) rfl)
set_option maxRecDepth 20000 in
theorem gt_737 : (.selects RD yD_find yD_find : Cond) ∈ lw_tbl := List.mem_append_left _ (List.mem_of_getElem? (i := 4) rfl)
set_option maxRecDepth 20000 in
theorem gt_738 : (.selects RN yN_addLateFee yN_addLateFee : Cond) ∈ lw_tbl := List.mem_append_left _ (List.mem_of_getElem? (i := 5) rfl)
set_option maxRecDepth 20000 in
theorem gt_739 : (.selects RN yN_accrue yN_accrue : Cond) ∈ lw_tbl := List.mem_append_left _ (List.mem_of_getElem? (i := 6) rfl)
set_option maxRecDepth 20000 in
theorem gt_740 : (.selects RN yN_makeBill yN_makeBill : Cond) ∈ lw_tbl := List.mem_append_left _ (List.mem_of_getElem? (i := 7) rfl)
set_option maxRecDepth 20000 in
theorem gt_741 : (.selects RN yN_partToBill yN_partToBill : Cond) ∈ lw_tbl := List.mem_append_left _ (List.mem_of_getElem? (i := 8) rfl)
set_option maxRecDepth 20000 in
theorem gt_742 : (.selects RN yN_splitPayment yN_splitPayment : Cond) ∈ lw_tbl := List.mem_append_left _ (List.mem_of_getElem? (i := 9) rfl)
set_option maxRecDepth 20000 in
theorem gt_743 : (.selects RM yM_find yM_find : Cond) ∈ lw_tbl := List.mem_append_left _ (List.mem_of_getElem? (i := 10) rfl)
set_option maxRecDepth 20000 in
theorem gt_744 : (.selects RM yM_interestOn yM_interestOn : Cond) ∈ lw_tbl := List.mem_append_left _ (List.mem_of_getElem? (i := 11) rfl)
set_option maxRecDepth 20000 in
theorem gt_745 : (.selects RM yM_span yM_span : Cond) ∈ lw_tbl := List.mem_append_left _ (List.mem_of_getElem? (i := 12) rfl)
set_option maxRecDepth 20000 in
theorem gt_746 : (.selects RM yM_reckon yM_reckon : Cond) ∈ lw_tbl := List.mem_append_left _ (List.mem_of_getElem? (i := 13) rfl)
set_option maxRecDepth 20000 in
theorem gt_747 : (.selects RM yM_firstBehind yM_firstBehind : Cond) ∈ lw_tbl := List.mem_append_left _ (List.mem_of_getElem? (i := 14) rfl)
set_option maxRecDepth 20000 in
theorem gt_748 : (.selects RM yM_monthsSince yM_monthsSince : Cond) ∈ lw_tbl := List.mem_append_left _ (List.mem_of_getElem? (i := 15) rfl)
set_option maxRecDepth 20000 in
theorem gt_749 : (.selects RM yM_dueDay yM_dueDay : Cond) ∈ lw_tbl := List.mem_append_left _ (List.mem_of_getElem? (i := 16) rfl)
set_option maxRecDepth 20000 in
theorem gt_750 : (.selects RM yM_leaves yM_leaves : Cond) ∈ lw_tbl := List.mem_append_left _ (List.mem_of_getElem? (i := 17) rfl)
set_option maxRecDepth 20000 in
theorem gt_751 : (.selects RM yM_own yM_own : Cond) ∈ lw_tbl := List.mem_append_left _ (List.mem_of_getElem? (i := 18) rfl)
set_option maxRecDepth 20000 in
theorem gt_752 : (.selects RM yM_none yM_none : Cond) ∈ lw_tbl := List.mem_append_left _ (List.mem_of_getElem? (i := 19) rfl)
set_option maxRecDepth 20000 in
theorem gt_753 : (.selects RM yM_dayOfLoan yM_dayOfLoan : Cond) ∈ lw_tbl := List.mem_append_left _ (List.mem_of_getElem? (i := 20) rfl)
set_option maxRecDepth 20000 in
theorem gt_754 : (.selects RM yM_billedOn yM_billedOn : Cond) ∈ lw_tbl := List.mem_append_left _ (List.mem_of_getElem? (i := 21) rfl)
set_option maxRecDepth 20000 in
theorem gt_755 : (.selects RM yM_whichDue yM_whichDue : Cond) ∈ lw_tbl := List.mem_append_left _ (List.mem_of_getElem? (i := 22) rfl)
set_option maxRecDepth 20000 in
theorem gt_756 : (.selects RM yM_accrue yM_accrue : Cond) ∈ lw_tbl := List.mem_append_left _ (List.mem_of_getElem? (i := 23) rfl)
set_option maxRecDepth 20000 in
theorem gt_757 : (.selects RM yM_makeBill yM_makeBill : Cond) ∈ lw_tbl := List.mem_append_left _ (List.mem_of_getElem? (i := 24) rfl)
set_option maxRecDepth 20000 in
theorem gt_758 : (.selects RM yM_at yM_at : Cond) ∈ lw_tbl := List.mem_append_left _ (List.mem_of_getElem? (i := 25) rfl)
set_option maxRecDepth 20000 in
theorem gt_759 : (.selects RM yM_seen yM_seen : Cond) ∈ lw_tbl := List.mem_append_left _ (List.mem_of_getElem? (i := 26) rfl)
theorem gtc_18 : ∀ w ∈ GW_18, w ∈ lw_tbl := List.forall_mem_cons.mpr ⟨gt_720, List.forall_mem_cons.mpr ⟨gt_721, List.forall_mem_cons.mpr ⟨gt_722, List.forall_mem_cons.mpr ⟨gt_723, List.forall_mem_cons.mpr ⟨gt_724, List.forall_mem_cons.mpr ⟨gt_725, List.forall_mem_cons.mpr ⟨gt_726, List.forall_mem_cons.mpr ⟨gt_727, List.forall_mem_cons.mpr ⟨gt_728, List.forall_mem_cons.mpr ⟨gt_729, List.forall_mem_cons.mpr ⟨gt_730, List.forall_mem_cons.mpr ⟨gt_731, List.forall_mem_cons.mpr ⟨gt_732, List.forall_mem_cons.mpr ⟨gt_733, List.forall_mem_cons.mpr ⟨gt_734, List.forall_mem_cons.mpr ⟨gt_735, List.forall_mem_cons.mpr ⟨gt_736, List.forall_mem_cons.mpr ⟨gt_737, List.forall_mem_cons.mpr ⟨gt_738, List.forall_mem_cons.mpr ⟨gt_739, List.forall_mem_cons.mpr ⟨gt_740, List.forall_mem_cons.mpr ⟨gt_741, List.forall_mem_cons.mpr ⟨gt_742, List.forall_mem_cons.mpr ⟨gt_743, List.forall_mem_cons.mpr ⟨gt_744, List.forall_mem_cons.mpr ⟨gt_745, List.forall_mem_cons.mpr ⟨gt_746, List.forall_mem_cons.mpr ⟨gt_747, List.forall_mem_cons.mpr ⟨gt_748, List.forall_mem_cons.mpr ⟨gt_749, List.forall_mem_cons.mpr ⟨gt_750, List.forall_mem_cons.mpr ⟨gt_751, List.forall_mem_cons.mpr ⟨gt_752, List.forall_mem_cons.mpr ⟨gt_753, List.forall_mem_cons.mpr ⟨gt_754, List.forall_mem_cons.mpr ⟨gt_755, List.forall_mem_cons.mpr ⟨gt_756, List.forall_mem_cons.mpr ⟨gt_757, List.forall_mem_cons.mpr ⟨gt_758, List.forall_mem_cons.mpr ⟨gt_759, fun _ h => absurd h List.not_mem_nil⟩⟩⟩⟩⟩⟩⟩⟩⟩⟩⟩⟩⟩⟩⟩⟩⟩⟩⟩⟩⟩⟩⟩⟩⟩⟩⟩⟩⟩⟩⟩⟩⟩⟩⟩⟩⟩⟩⟩⟩
theorem GW_tbl : ∀ w ∈ GW, w ∈ lw_tbl := List.forall_mem_append.mpr ⟨gtc_0, List.forall_mem_append.mpr ⟨gtc_1, List.forall_mem_append.mpr ⟨gtc_2, List.forall_mem_append.mpr ⟨gtc_3, List.forall_mem_append.mpr ⟨gtc_4, List.forall_mem_append.mpr ⟨gtc_5, List.forall_mem_append.mpr ⟨gtc_6, List.forall_mem_append.mpr ⟨gtc_7, List.forall_mem_append.mpr ⟨gtc_8, List.forall_mem_append.mpr ⟨gtc_9, List.forall_mem_append.mpr ⟨gtc_10, List.forall_mem_append.mpr ⟨gtc_11, List.forall_mem_append.mpr ⟨gtc_12, List.forall_mem_append.mpr ⟨gtc_13, List.forall_mem_append.mpr ⟨gtc_14, List.forall_mem_append.mpr ⟨gtc_15, List.forall_mem_append.mpr ⟨gtc_16, List.forall_mem_append.mpr ⟨gtc_17, gtc_18⟩⟩⟩⟩⟩⟩⟩⟩⟩⟩⟩⟩⟩⟩⟩⟩⟩⟩
theorem GW_good : ∀ w ∈ GW, goodWord w = true := List.forall_mem_append.mpr ⟨List.all_eq_true.mp GW_0_good, List.forall_mem_append.mpr ⟨List.all_eq_true.mp GW_1_good, List.forall_mem_append.mpr ⟨List.all_eq_true.mp GW_2_good, List.forall_mem_append.mpr ⟨List.all_eq_true.mp GW_3_good, List.forall_mem_append.mpr ⟨List.all_eq_true.mp GW_4_good, List.forall_mem_append.mpr ⟨List.all_eq_true.mp GW_5_good, List.forall_mem_append.mpr ⟨List.all_eq_true.mp GW_6_good, List.forall_mem_append.mpr ⟨List.all_eq_true.mp GW_7_good, List.forall_mem_append.mpr ⟨List.all_eq_true.mp GW_8_good, List.forall_mem_append.mpr ⟨List.all_eq_true.mp GW_9_good, List.forall_mem_append.mpr ⟨List.all_eq_true.mp GW_10_good, List.forall_mem_append.mpr ⟨List.all_eq_true.mp GW_11_good, List.forall_mem_append.mpr ⟨List.all_eq_true.mp GW_12_good, List.forall_mem_append.mpr ⟨List.all_eq_true.mp GW_13_good, List.forall_mem_append.mpr ⟨List.all_eq_true.mp GW_14_good, List.forall_mem_append.mpr ⟨List.all_eq_true.mp GW_15_good, List.forall_mem_append.mpr ⟨List.all_eq_true.mp GW_16_good, List.forall_mem_append.mpr ⟨List.all_eq_true.mp GW_17_good, (List.all_eq_true.mp GW_18_good)⟩⟩⟩⟩⟩⟩⟩⟩⟩⟩⟩⟩⟩⟩⟩⟩⟩⟩
end
section
/-! rows of my own over the kit's: worlds as lists, calls with a world in front and a rest behind, ends -/
def kw_B (D : va_G) (cl : List vw_C) (tys : List (ClassId × FieldType)) (ws : va_W) (A : Nat → Prop) (t : State) : Prop := va_P D cl ws t.heap ∧ va_K D cl tys t ∧ va_D A ws
def kw_Pc (D : va_G) (cl : List vw_C) (tys : List (ClassId × FieldType)) (av : List Value) (ws : va_W) (sz : Nat) : Array Value → State → Prop := va_Pc av (fun U => U.heap.size = sz ∧ kw_B D cl tys ws (fun _ => True) U)
def kw_i (D : va_G) (cl : List vw_C) (tys : List (ClassId × FieldType)) (ws : va_W) (sz : Nat) (r : Int32) (w' : va_W) : Array Value → State → Outcome → State → Prop := va_Qi (fun x (u : va_W) => x = r ∧ u = w') (fun u t => kw_B D cl tys u (va_A ws sz) t) (va_A ws sz)
def kw_l (D : va_G) (cl : List vw_C) (tys : List (ClassId × FieldType)) (ws : va_W) (sz : Nat) (r : Int64) (w' : va_W) : Array Value → State → Outcome → State → Prop := va_Ql (fun x (u : va_W) => x = r ∧ u = w') (fun u t => kw_B D cl tys u (va_A ws sz) t) (va_A ws sz)
def kw_v (D : va_G) (cl : List vw_C) (tys : List (ClassId × FieldType)) (ws : va_W) (sz : Nat) (w' : va_W) : Array Value → State → Outcome → State → Prop := va_Qv (fun (u : va_W) => u = w') (fun u t => kw_B D cl tys u (va_A ws sz) t) (va_A ws sz)
def kw_r (D : va_G) (cl : List vw_C) (tys : List (ClassId × FieldType)) (ws : va_W) (sz : Nat) (ra : Nat) (w' : va_W) : Array Value → State → Outcome → State → Prop := va_Qr (fun (u : va_W) => u = w') (fun u b t => b = ra ∧ kw_B D cl tys u (va_A ws sz) t) (va_A ws sz)
/-- a method that touches no heap -/
def kp_Pc (av : List Value) : Array Value → State → Prop := fun v _ => v = av.toArray
theorem kp_pre {s : State} {H : Heap} {As : List Value} : PreS s H (kp_Pc As) As := ⟨fun _ _ _ _ q => q, fun _ _ _ => rfl⟩
theorem kw_blind {D : va_G} {cl : List vw_C} {tys : List (ClassId × FieldType)} {av : List Value} {ws : va_W} {sz : Nat} : FrameBlind (kw_Pc D cl tys av ws sz) := fun a U g mk q => by
  obtain ⟨q0, q1, qP, qK, qD⟩ := q
  exact ⟨q0, q1, qP, va_K.moved (u := U) (U := U.calling g mk a) (Vm.Alike.refl U.vm) qK, qD⟩
theorem kw_at {D : va_G} {cl : List vw_C} {tys : List (ClassId × FieldType)} {av : List Value} {ws : va_W} {A : Nat → Prop} {s U : State} {H : Heap} (hK : va_K D cl tys s) (hP : va_P D cl ws H) (hD : va_D A ws) (hU : U.heap = H) (hW : s.WarmedH U.vm) : kw_Pc D cl tys av ws H.size av.toArray U :=
  ⟨rfl, by rw [hU], by rw [hU]; exact hP, va_K.moved hW.alike hK, hD.weaken (fun _ _ _ _ => trivial)⟩
theorem kw_preS {D : va_G} {cl : List vw_C} {tys : List (ClassId × FieldType)} {As : List Value} {ws : va_W} {A : Nat → Prop} {s : State} {H : Heap} (hK : va_K D cl tys s) (hP : va_P D cl ws H) (hD : va_D A ws) : PreS s H (kw_Pc D cl tys As ws H.size) As :=
  ⟨kw_blind, fun _ hU hW => kw_at hK hP hD hU hW⟩
theorem kw_preV {D : va_G} {cl : List vw_C} {tys : List (ClassId × FieldType)} {As : List Value} {ws : va_W} {A : Nat → Prop} {s : State} {H : Heap} {b q0 ci : Nat} {q : vw_C} {fs : List Value} (hK : va_K D cl tys s) (hP : va_P D cl ws H) (hD : va_D A ws) (hc : cl[ci]? = some q) (he : ws[q0]? = some (b, .inr (ci, fs))) : PreV s H q.1 b (kw_Pc D cl tys (.ref b :: As) ws H.size) As :=
  ⟨kw_blind, va_recv hK hP hc he, fun _ hU hW => kw_at hK hP hD hU hW⟩
theorem kw_preVx {D : va_G} {cl : List vw_C} {tys : List (ClassId × FieldType)} {As : List Value} {ws : va_W} {s : State} {H : Heap} {b q0 ci : Nat} {q : vw_C} {fs : List Value} (hK : va_K D cl tys s) (hP : va_P D cl ws H) (hc : cl[ci]? = some q) (he : ws[q0]? = some (b, .inr (ci, fs))) : PreV s H q.1 b (kp_Pc (.ref b :: As)) As :=
  ⟨fun _ _ _ _ q => q, va_recv hK hP hc he, fun _ _ _ => rfl⟩
-- worlds by membership
theorem kw_Pm {D : va_G} {cl : List vw_C} {ws : va_W} {H : Heap} : va_P D cl ws H ↔ ∀ q ∈ ws, va_at D cl q H :=
  ⟨fun h q hq => by obtain ⟨k, hk⟩ := List.getElem?_of_mem hq; exact h k q hk, fun h _ q hk => h q (List.mem_of_getElem? hk)⟩
theorem kw_Pl {D : va_G} {cl : List vw_C} {w1 w2 : va_W} {H : Heap} (h : va_P D cl (w1 ++ w2) H) : va_P D cl w1 H := kw_Pm.mpr fun q hq => kw_Pm.mp h q (List.mem_append_left _ hq)
theorem kw_Pr {D : va_G} {cl : List vw_C} {w1 w2 : va_W} {H : Heap} (h : va_P D cl (w1 ++ w2) H) : va_P D cl w2 H := kw_Pm.mpr fun q hq => kw_Pm.mp h q (List.mem_append_right _ hq)
theorem kw_Pp {D : va_G} {cl : List vw_C} {w1 w2 : va_W} {H : Heap} (h : va_P D cl w1 H) (hp : w2.Perm w1) : va_P D cl w2 H := kw_Pm.mpr fun q hq => kw_Pm.mp h q (hp.mem_iff.mp hq)
theorem kw_Dm {A : Nat → Prop} {ws : va_W} : va_D A ws ↔ (ws.map (fun q => q.1)).Nodup ∧ ∀ q ∈ ws, A q.1 := by
  constructor
  · intro h
    refine ⟨List.pairwise_iff_getElem.mpr fun i j hi hj hij he => ?_, fun q hq => by obtain ⟨k, hk⟩ := List.getElem?_of_mem hq; exact h.2 k q hk⟩
    rw [List.length_map] at hi hj
    rw [List.getElem_map, List.getElem_map] at he
    exact Nat.ne_of_lt hij (h.1 i j _ _ (List.getElem?_eq_getElem hi) (List.getElem?_eq_getElem hj) he)
  · intro h
    refine ⟨fun i j x y hx hy e => ?_, fun k q hk => h.2 q (List.mem_of_getElem? hk)⟩
    have hn := List.pairwise_iff_getElem.mp h.1
    obtain ⟨hi, ei⟩ := List.getElem?_eq_some_iff.mp hx
    obtain ⟨hj, ej⟩ := List.getElem?_eq_some_iff.mp hy
    rcases Nat.lt_trichotomy i j with q | q | q
    · refine absurd ?_ (hn i j (by rw [List.length_map]; exact hi) (by rw [List.length_map]; exact hj) q)
      rw [List.getElem_map, List.getElem_map, ei, ej]; exact e
    · exact q
    · refine absurd ?_ (hn j i (by rw [List.length_map]; exact hj) (by rw [List.length_map]; exact hi) q)
      rw [List.getElem_map, List.getElem_map, ei, ej]; exact e.symm
theorem kw_Dp {A : Nat → Prop} {w1 w2 : va_W} (h : va_D A w1) (hp : w2.Perm w1) : va_D A w2 := by
  rw [kw_Dm] at h ⊢
  exact ⟨(hp.map _).nodup_iff.mpr h.1, fun q hq => h.2 q (hp.mem_iff.mp hq)⟩
theorem kw_Dl {A : Nat → Prop} {w1 w2 : va_W} (h : va_D A (w1 ++ w2)) : va_D A w1 := by
  rw [kw_Dm] at h ⊢
  rw [List.map_append] at h
  exact ⟨(List.nodup_append.mp h.1).1, fun q hq => h.2 q (List.mem_append_left _ hq)⟩
theorem kw_Am {ws : va_W} {sz q : Nat} : va_A ws sz q ↔ (∃ e, (q, e) ∈ ws) ∨ sz ≤ q := by
  unfold va_A
  constructor
  · rintro (⟨k, e, h⟩ | h)
    · exact Or.inl ⟨e, List.mem_of_getElem? h⟩
    · exact Or.inr h
  · rintro (⟨e, h⟩ | h)
    · obtain ⟨k, hk⟩ := List.getElem?_of_mem h
      exact Or.inl ⟨k, e, hk⟩
    · exact Or.inr h
theorem kw_free {A : Nat → Prop} {wc wr : va_W} {H0 H : Heap} {locs : List Loc} (hD : va_D A (wc ++ wr)) (hS : va_S A H0 H locs) (hA : ∀ q, H0.size ≤ q → A q) : ∀ q, va_A wc H.size q → A q := by
  intro q h
  rcases kw_Am.mp h with ⟨e, h⟩ | h
  · exact (kw_Dm.mp hD).2 (q, e) (List.mem_append_left _ h)
  · exact hA q (Nat.le_trans hS.1 h)
theorem kw_join {A : Nat → Prop} {D : va_G} {cl : List vw_C} {wc wr w1 : va_W} {H H1 : Heap} (hP : va_P D cl (wc ++ wr) H) (hD : va_D A (wc ++ wr)) (hk : ∀ q : Nat, q < H.size → ¬ va_A wc H.size q → H1[q]? = H[q]?) (hF : ∀ q, va_A wc H.size q → A q) (hP1 : va_P D cl w1 H1) (hD1 : va_D (va_A wc H.size) w1) : va_P D cl (w1 ++ wr) H1 ∧ va_D A (w1 ++ wr) := by
  have hd := kw_Dm.mp hD
  rw [List.map_append] at hd
  obtain ⟨n1, n2, n3⟩ := List.nodup_append.mp hd.1
  have hd1 := kw_Dm.mp hD1
  have apart : ∀ q ∈ wr, q.1 < H.size ∧ ¬ va_A wc H.size q.1 := by
    intro q hq
    have hl := (kw_Pm.mp hP q (List.mem_append_right _ hq)).lt
    refine ⟨hl, fun h => ?_⟩
    rcases kw_Am.mp h with ⟨e, h⟩ | h
    · exact n3 q.1 (List.mem_map.mpr ⟨(q.1, e), h, rfl⟩) q.1 (List.mem_map.mpr ⟨q, hq, rfl⟩) rfl
    · omega
  constructor
  · rw [kw_Pm]
    intro q hq
    rcases List.mem_append.mp hq with h | h
    · exact kw_Pm.mp hP1 q h
    · exact (kw_Pm.mp hP q (List.mem_append_right _ h)).kept (hk q.1 (apart q h).1 (apart q h).2)
  · rw [kw_Dm, List.map_append]
    refine ⟨List.nodup_append.mpr ⟨hd1.1, n2, fun x hx y hy e => ?_⟩, fun q hq => ?_⟩
    · obtain ⟨u, hu, rfl⟩ := List.mem_map.mp hx
      obtain ⟨v, hv, rfl⟩ := List.mem_map.mp hy
      exact (apart v hv).2 (e ▸ hd1.2 u hu)
    · rcases List.mem_append.mp hq with h | h
      · exact hF _ (hd1.2 q h)
      · exact hd.2 q (List.mem_append_right _ h)
section KWR
variable {p : Program} {l : Launch} {e : Env} {R : Room} {s : State} {m : MethodId} {args : Array Value} {below : List Frame} {meth : Method} {c : Code} {H : Heap} {locs : List Loc} {cells slots : Nat} {Q : State → Prop}
variable {cc : ByteArray} {pc : Nat} {ls : Array Slot} {rest st0 : List Value} {D : va_G} {cl : List vw_C} {A : Nat → Prop} {tys : List (ClassId × FieldType)} {ws wc wr w' : va_W} {H0 : Heap} {mc ms : Nat} {a : Array Value}
theorem kw_reti {r : Int32} (hr : va_Run p l e R s m args below meth c H locs cells slots mc ms (F0 m pc ls st0) rest (kw_i D cl tys wc H.size r w' a) (va_A wc H.size)) (hP : va_P D cl (wc ++ wr) H) (hD : va_D A (wc ++ wr)) (hS : va_S A H0 H locs) (hA : ∀ q, H0.size ≤ q → A q)
    (kk : ∀ (H : Heap) (locs : List Loc), va_P D cl (w' ++ wr) H → va_D A (w' ++ wr) → va_S A H0 H locs → W p l e R s m args below meth c H locs (cells + mc) (slots + ms) Q (F0 m (pc + 3) ls (.int r :: rest))) : W p l e R s m args below meth c H locs cells slots Q (F0 m pc ls st0) := by
  have hF := kw_free hD hS hA
  refine va_calli hr hS (fun q _ h => hF q h) hF (fun r u t H1 locs1 ht hvm hp hB hz hk hS1 => ?_)
  obtain ⟨rfl, rfl⟩ := hp
  obtain ⟨hP1, hK1, hD1⟩ := hB
  rw [ht] at hP1
  obtain ⟨j1, j2⟩ := kw_join hP hD hk hF hP1 hD1
  exact kk H1 locs1 j1 j2 hS1
theorem kw_retl {r : Int64} (hr : va_Run p l e R s m args below meth c H locs cells slots mc ms (F0 m pc ls st0) rest (kw_l D cl tys wc H.size r w' a) (va_A wc H.size)) (hP : va_P D cl (wc ++ wr) H) (hD : va_D A (wc ++ wr)) (hS : va_S A H0 H locs) (hA : ∀ q, H0.size ≤ q → A q)
    (kk : ∀ (H : Heap) (locs : List Loc), va_P D cl (w' ++ wr) H → va_D A (w' ++ wr) → va_S A H0 H locs → W p l e R s m args below meth c H locs (cells + mc) (slots + ms) Q (F0 m (pc + 3) ls (.long r :: rest))) : W p l e R s m args below meth c H locs cells slots Q (F0 m pc ls st0) := by
  have hF := kw_free hD hS hA
  refine va_calll hr hS (fun q _ h => hF q h) hF (fun r u t H1 locs1 ht hvm hp hB hz hk hS1 => ?_)
  obtain ⟨rfl, rfl⟩ := hp
  obtain ⟨hP1, hK1, hD1⟩ := hB
  rw [ht] at hP1
  obtain ⟨j1, j2⟩ := kw_join hP hD hk hF hP1 hD1
  exact kk H1 locs1 j1 j2 hS1
theorem kw_retv (hr : va_Run p l e R s m args below meth c H locs cells slots mc ms (F0 m pc ls st0) rest (kw_v D cl tys wc H.size w' a) (va_A wc H.size)) (hP : va_P D cl (wc ++ wr) H) (hD : va_D A (wc ++ wr)) (hS : va_S A H0 H locs) (hA : ∀ q, H0.size ≤ q → A q)
    (kk : ∀ (H : Heap) (locs : List Loc), va_P D cl (w' ++ wr) H → va_D A (w' ++ wr) → va_S A H0 H locs → W p l e R s m args below meth c H locs (cells + mc) (slots + ms) Q (F0 m (pc + 3) ls rest)) : W p l e R s m args below meth c H locs cells slots Q (F0 m pc ls st0) := by
  have hF := kw_free hD hS hA
  refine va_callv hr hS (fun q _ h => hF q h) hF (fun u t H1 locs1 ht hvm hp hB hz hk hS1 => ?_)
  subst hp
  obtain ⟨hP1, hK1, hD1⟩ := hB
  rw [ht] at hP1
  obtain ⟨j1, j2⟩ := kw_join hP hD hk hF hP1 hD1
  exact kk H1 locs1 j1 j2 hS1
theorem kw_retr {ra : Nat} (hr : va_Run p l e R s m args below meth c H locs cells slots mc ms (F0 m pc ls st0) rest (kw_r D cl tys wc H.size ra w' a) (va_A wc H.size)) (hP : va_P D cl (wc ++ wr) H) (hD : va_D A (wc ++ wr)) (hS : va_S A H0 H locs) (hA : ∀ q, H0.size ≤ q → A q)
    (kk : ∀ (H : Heap) (locs : List Loc), va_P D cl (w' ++ wr) H → va_D A (w' ++ wr) → va_S A H0 H locs → W p l e R s m args below meth c H locs (cells + mc) (slots + ms) Q (F0 m (pc + 3) ls (.ref ra :: rest))) : W p l e R s m args below meth c H locs cells slots Q (F0 m pc ls st0) := by
  have hF := kw_free hD hS hA
  refine va_callr hr hS (fun q _ h => hF q h) hF (fun u ra1 t H1 locs1 ht hvm hp hB hz hk hS1 => ?_)
  subst hp
  obtain ⟨rfl, hP1, hK1, hD1⟩ := hB
  rw [ht] at hP1
  obtain ⟨j1, j2⟩ := kw_join hP hD hk hF hP1 hD1
  exact kk H1 locs1 j1 j2 hS1
-- the same where the callee's world is the caller's
theorem kw_reti0 {r : Int32} (hr : va_Run p l e R s m args below meth c H locs cells slots mc ms (F0 m pc ls st0) rest (kw_i D cl tys wc H.size r w' a) (va_A wc H.size)) (hP : va_P D cl wc H) (hD : va_D A wc) (hS : va_S A H0 H locs) (hA : ∀ q, H0.size ≤ q → A q)
    (kk : ∀ (H : Heap) (locs : List Loc), va_P D cl w' H → va_D A w' → va_S A H0 H locs → W p l e R s m args below meth c H locs (cells + mc) (slots + ms) Q (F0 m (pc + 3) ls (.int r :: rest))) : W p l e R s m args below meth c H locs cells slots Q (F0 m pc ls st0) :=
  kw_reti (wr := []) hr (by rw [List.append_nil]; exact hP) (by rw [List.append_nil]; exact hD) hS hA (fun H locs h1 h2 h3 => kk H locs (by rw [List.append_nil] at h1; exact h1) (by rw [List.append_nil] at h2; exact h2) h3)
theorem kw_retl0 {r : Int64} (hr : va_Run p l e R s m args below meth c H locs cells slots mc ms (F0 m pc ls st0) rest (kw_l D cl tys wc H.size r w' a) (va_A wc H.size)) (hP : va_P D cl wc H) (hD : va_D A wc) (hS : va_S A H0 H locs) (hA : ∀ q, H0.size ≤ q → A q)
    (kk : ∀ (H : Heap) (locs : List Loc), va_P D cl w' H → va_D A w' → va_S A H0 H locs → W p l e R s m args below meth c H locs (cells + mc) (slots + ms) Q (F0 m (pc + 3) ls (.long r :: rest))) : W p l e R s m args below meth c H locs cells slots Q (F0 m pc ls st0) :=
  kw_retl (wr := []) hr (by rw [List.append_nil]; exact hP) (by rw [List.append_nil]; exact hD) hS hA (fun H locs h1 h2 h3 => kk H locs (by rw [List.append_nil] at h1; exact h1) (by rw [List.append_nil] at h2; exact h2) h3)
theorem kw_retv0 (hr : va_Run p l e R s m args below meth c H locs cells slots mc ms (F0 m pc ls st0) rest (kw_v D cl tys wc H.size w' a) (va_A wc H.size)) (hP : va_P D cl wc H) (hD : va_D A wc) (hS : va_S A H0 H locs) (hA : ∀ q, H0.size ≤ q → A q)
    (kk : ∀ (H : Heap) (locs : List Loc), va_P D cl w' H → va_D A w' → va_S A H0 H locs → W p l e R s m args below meth c H locs (cells + mc) (slots + ms) Q (F0 m (pc + 3) ls rest)) : W p l e R s m args below meth c H locs cells slots Q (F0 m pc ls st0) :=
  kw_retv (wr := []) hr (by rw [List.append_nil]; exact hP) (by rw [List.append_nil]; exact hD) hS hA (fun H locs h1 h2 h3 => kk H locs (by rw [List.append_nil] at h1; exact h1) (by rw [List.append_nil] at h2; exact h2) h3)
-- a callee that touches no heap
theorem kp_reti {r : Int32} (hr : va_Run p l e R s m args below meth c H locs cells slots 0 0 (F0 m pc ls st0) rest (vp_Si (fun x => x = r) a) (fun _ => False))
    (kk : W p l e R s m args below meth c H locs cells slots Q (F0 m (pc + 3) ls (.int r :: rest))) : W p l e R s m args below meth c H locs cells slots Q (F0 m pc ls st0) := by
  intro T hT X
  obtain ⟨v, st₀, t, T', L, h0, X', hL, e1, -, ⟨r, hv, rfl, hh⟩, st⟩ := hr T hT X
  cases hv
  obtain ⟨t2, a1, b1⟩ := kk T' (by rw [e1, hh, h0]) (Stand.forget X' (fun q h => (hL q h).elim))
  exact ⟨t2, st t2 a1, b1⟩
theorem kp_retl {r : Int64} (hr : va_Run p l e R s m args below meth c H locs cells slots 0 0 (F0 m pc ls st0) rest (vp_Sl (fun x => x = r) a) (fun _ => False))
    (kk : W p l e R s m args below meth c H locs cells slots Q (F0 m (pc + 3) ls (.long r :: rest))) : W p l e R s m args below meth c H locs cells slots Q (F0 m pc ls st0) := by
  intro T hT X
  obtain ⟨v, st₀, t, T', L, h0, X', hL, e1, -, ⟨r, hv, rfl, hh⟩, st⟩ := hr T hT X
  cases hv
  obtain ⟨t2, a1, b1⟩ := kk T' (by rw [e1, hh, h0]) (Stand.forget X' (fun q h => (hL q h).elim))
  exact ⟨t2, st t2 a1, b1⟩
-- ends
theorem kw_iret {v r : Int32} {w1 : va_W} (hx : p.tables.exec = Jvm.exec) (hb : c.code = cc) (hr : meth.sig.returnType = some .int) (hlocks : meth.locks = false) (hK : va_K D cl tys s) (hP : va_P D cl w1 H) (hD : va_D (va_A ws s.heap.size) w1) (hS : va_S (va_A ws s.heap.size) s.heap H locs) (hv : v = r ∧ w1 = w') (hdg : decode cc pc = .ok (.ireturn, 1)) :
    W p l e R s m args below meth c H locs cells slots (MQ below (kw_i D cl tys ws s.heap.size r w') args s cells slots (va_A ws s.heap.size)) (F0 m pc ls [.int v]) :=
  W.iret hx hb hr (fun t ht hW => ⟨⟨v, w1, rfl, hv, by rw [ht]; exact hP, va_K.moved hW.alike hK, hD⟩, hS.F ht⟩) hS.2.2 hdg
theorem kw_zret {v r : Int32} {w1 : va_W} (hx : p.tables.exec = Jvm.exec) (hb : c.code = cc) (hr : meth.sig.returnType = some .boolean) (hn : narrow .boolean (.int v) = .int v) (hlocks : meth.locks = false) (hK : va_K D cl tys s) (hP : va_P D cl w1 H) (hD : va_D (va_A ws s.heap.size) w1) (hS : va_S (va_A ws s.heap.size) s.heap H locs) (hv : v = r ∧ w1 = w') (hdg : decode cc pc = .ok (.ireturn, 1)) :
    W p l e R s m args below meth c H locs cells slots (MQ below (kw_i D cl tys ws s.heap.size r w') args s cells slots (va_A ws s.heap.size)) (F0 m pc ls [.int v]) :=
  W.zret hx hb hr hn (fun t ht hW => ⟨⟨v, w1, rfl, hv, by rw [ht]; exact hP, va_K.moved hW.alike hK, hD⟩, hS.F ht⟩) hS.2.2 hdg
theorem kw_vret {w1 : va_W} (hx : p.tables.exec = Jvm.exec) (hb : c.code = cc) (hr : meth.sig.returnType = none) (hlocks : meth.locks = false) (hK : va_K D cl tys s) (hP : va_P D cl w1 H) (hD : va_D (va_A ws s.heap.size) w1) (hS : va_S (va_A ws s.heap.size) s.heap H locs) (hv : w1 = w') (hdg : decode cc pc = .ok (.return_, 1)) :
    W p l e R s m args below meth c H locs cells slots (MQ below (kw_v D cl tys ws s.heap.size w') args s cells slots (va_A ws s.heap.size)) (F0 m pc ls []) :=
  W.vret hx hb hr (fun t ht hW => ⟨⟨w1, rfl, hv, by rw [ht]; exact hP, va_K.moved hW.alike hK, hD⟩, hS.F ht⟩) hS.2.2 hdg
theorem kw_lret {v r : Int64} {w1 : va_W} (hx : p.tables.exec = Jvm.exec) (hb : c.code = cc) (hr : meth.sig.returnType = some .long) (hlocks : meth.locks = false) (hK : va_K D cl tys s) (hP : va_P D cl w1 H) (hD : va_D (va_A ws s.heap.size) w1) (hS : va_S (va_A ws s.heap.size) s.heap H locs) (hv : v = r ∧ w1 = w') (hdg : decode cc pc = .ok (.lreturn, 1)) :
    W p l e R s m args below meth c H locs cells slots (MQ below (kw_l D cl tys ws s.heap.size r w') args s cells slots (va_A ws s.heap.size)) (F0 m pc ls [.long v]) :=
  W.lret hx hb hr (fun t ht hW => ⟨⟨v, w1, rfl, hv, by rw [ht]; exact hP, va_K.moved hW.alike hK, hD⟩, hS.F ht⟩) hS.2.2 hdg
theorem kp_iret {v r : Int32} (hx : p.tables.exec = Jvm.exec) (hb : c.code = cc) (hr : meth.sig.returnType = some .int) (hlocks : meth.locks = false) (hv : v = r) (hdg : decode cc pc = .ok (.ireturn, 1)) :
    W p l e R s m args below meth c s.heap [] cells slots (MQ below (vp_Si (fun x => x = r)) args s cells slots (fun _ => False)) (F0 m pc ls [.int v]) :=
  W.iret hx hb hr (fun t ht hW => ⟨v, rfl, hv, ht⟩) (fun q h => by cases h) hdg
theorem kp_zret {v r : Int32} (hx : p.tables.exec = Jvm.exec) (hb : c.code = cc) (hr : meth.sig.returnType = some .boolean) (hn : narrow .boolean (.int v) = .int v) (hlocks : meth.locks = false) (hv : v = r) (hdg : decode cc pc = .ok (.ireturn, 1)) :
    W p l e R s m args below meth c s.heap [] cells slots (MQ below (vp_Si (fun x => x = r)) args s cells slots (fun _ => False)) (F0 m pc ls [.int v]) :=
  W.zret hx hb hr hn (fun t ht hW => ⟨v, rfl, hv, ht⟩) (fun q h => by cases h) hdg
theorem kp_lret {v r : Int64} (hx : p.tables.exec = Jvm.exec) (hb : c.code = cc) (hr : meth.sig.returnType = some .long) (hlocks : meth.locks = false) (hv : v = r) (hdg : decode cc pc = .ok (.lreturn, 1)) :
    W p l e R s m args below meth c s.heap [] cells slots (MQ below (vp_Sl (fun x => x = r)) args s cells slots (fun _ => False)) (F0 m pc ls [.long v]) :=
  W.lret hx hb hr (fun t ht hW => ⟨v, rfl, hv, ht⟩) (fun q h => by cases h) hdg
-- arrays at a place that is known as a Nat
theorem kw_iald (hx : p.tables.exec = Jvm.exec) (hb : c.code = cc) (hK : va_K D cl tys s) (hP : va_P D cl ws H) (q0 t0 : Nat) {x : Nat} {cA : ClassId} {n : Nat} {f : Nat → Int32} (ha : ws[q0]? = some (x, .inl (cA, n, .inl f))) (ht : tys[t0]? = some (cA, .int)) {i : Int32} (hin : vp_in i n) {j : Nat} (hj : i.toNatClampNeg = j) {v : Int32} (hv : f j = v) (hdg : decode cc pc = .ok (.iaload, 1))
    (kk : W p l e R s m args below meth c H locs cells slots Q (F0 m (pc + 1) ls (.int v :: rest))) : W p l e R s m args below meth c H locs cells slots Q (F0 m pc ls (.int i :: .ref x :: rest)) := by
  subst hj; subst hv
  exact va_iald hx hb hK hP q0 t0 ha ht hin hdg kk
theorem kw_iast (hx : p.tables.exec = Jvm.exec) (hb : c.code = cc) (hK : va_K D cl tys s) (hP : va_P D cl ws H) (hD : va_D A ws) (hS : va_S A H0 H locs) (q0 t0 : Nat) {x : Nat} {cA : ClassId} {n : Nat} {f : Nat → Int32} (ha : ws[q0]? = some (x, .inl (cA, n, .inl f))) (ht : tys[t0]? = some (cA, .int)) {i : Int32} {v : Int32} (hin : vp_in i n) {j : Nat} (hj : i.toNatClampNeg = j) (hdg : decode cc pc = .ok (.iastore, 1))
    (hw : ws.set q0 (x, .inl (cA, n, .inl (upd f j v))) = w')
    (kk : ∀ (H : Heap) (locs : List Loc), va_P D cl w' H → va_D A w' → va_S A H0 H locs → W p l e R s m args below meth c H locs cells slots Q (F0 m (pc + 1) ls rest)) : W p l e R s m args below meth c H locs cells slots Q (F0 m pc ls (.int v :: .int i :: .ref x :: rest)) := by
  subst hj; subst hw
  exact va_iast hx hb hK hP hD hS q0 t0 ha ht hin hdg kk
theorem kw_zald (hx : p.tables.exec = Jvm.exec) (hb : c.code = cc) (hK : va_K D cl tys s) (hP : va_P D cl ws H) (q0 t0 : Nat) {x : Nat} {cA : ClassId} {n : Nat} {f : Nat → Int32} (ha : ws[q0]? = some (x, .inl (cA, n, .inl f))) (ht : tys[t0]? = some (cA, .boolean)) {i : Int32} (hin : vp_in i n) {j : Nat} (hj : i.toNatClampNeg = j) {v : Int32} (hv : f j = v) (hdg : decode cc pc = .ok (.baload, 1))
    (kk : W p l e R s m args below meth c H locs cells slots Q (F0 m (pc + 1) ls (.int v :: rest))) : W p l e R s m args below meth c H locs cells slots Q (F0 m pc ls (.int i :: .ref x :: rest)) := by
  subst hj; subst hv
  exact va_zald hx hb hK hP q0 t0 ha ht hin hdg kk
theorem kw_zast (hx : p.tables.exec = Jvm.exec) (hb : c.code = cc) (hK : va_K D cl tys s) (hP : va_P D cl ws H) (hD : va_D A ws) (hS : va_S A H0 H locs) (q0 t0 : Nat) {x : Nat} {cA : ClassId} {n : Nat} {f : Nat → Int32} (ha : ws[q0]? = some (x, .inl (cA, n, .inl f))) (ht : tys[t0]? = some (cA, .boolean)) {i : Int32} {v v' : Int32} (hin : vp_in i n) {j : Nat} (hj : i.toNatClampNeg = j) (hn : vp_nar .boolean v = v') (hdg : decode cc pc = .ok (.bastore, 1))
    (hw : ws.set q0 (x, .inl (cA, n, .inl (upd f j v'))) = w')
    (kk : ∀ (H : Heap) (locs : List Loc), va_P D cl w' H → va_D A w' → va_S A H0 H locs → W p l e R s m args below meth c H locs cells slots Q (F0 m (pc + 1) ls rest)) : W p l e R s m args below meth c H locs cells slots Q (F0 m pc ls (.int v :: .int i :: .ref x :: rest)) := by
  subst hj; subst hn; subst hw
  exact va_zast hx hb hK hP hD hS q0 t0 ha ht hin hdg kk
end KWR
-- a state of a module: row 0 the numbers in its objects' fields, the other rows its arrays
abbrev KS : Type := Nat → Nat → Int32
def stt (S : KS) (a i : Nat) (v : Int32) : KS := va_up S a (upd (S a) i v)
section KWS
variable {p : Program} {l : Launch} {e : Env} {R : Room} {s : State} {m : MethodId} {args : Array Value} {below : List Frame} {meth : Method} {c : Code} {H : Heap} {locs : List Loc} {cells slots : Nat} {Q : State → Prop}
variable {cc : ByteArray} {pc : Nat} {ls : Array Slot} {rest st0 : List Value} {D : va_G} {cl : List vw_C} {A : Nat → Prop} {a : Nat} {tys : List (ClassId × FieldType)} {ws wc wr w' : va_W} {H0 : Heap} {mc ms : Nat}
theorem kw_entry {n : Nat} {av : Array Value} (vs : List Value) (hv : av = vs.toArray) (h : (lg_sl vs).length ≤ n) (k : ∀ ls : Array Slot, lv_has ls n (lv_args 0 vs) → W p l e R s m args below meth c H locs cells slots Q (F0 m 0 ls [])) : W p l e R s m args below meth c H locs cells slots Q (entryFrame m av n) := by
  subst hv
  rw [lg_entry_eq]
  exact k _ (lv_entry vs h)
theorem kw_put (hexec : p.tables.exec = Jvm.exec) (hb : c.code = cc) {own ref C : String} {T : u_T} {N ci index : Nat} {Ts : List Cond} (hts : ∀ w ∈ Ts, w.before args s = true) (hin : ∀ w ∈ u_ws C T N, w ∈ Ts) (ty0 : Nat → FieldType) (hty : ∀ k, k < N → parseFieldDescriptor (T k).2.2.1 = some (ty0 k)) (hnm : ∀ a, a < N → ∀ b, b < N → a ≠ b → (T a).2.1 ≠ (T b).2.1) (hown : s.vm.findClass own = some m.cls) (hK : va_K D cl tys s) (hP : va_P D cl ws H) (hD : va_D A ws) (hS0 : va_S A H0 H locs) (q0 : Nat) {fs : List Value} (he : ws[q0]? = some (a, .inr (ci, fs))) (hc : cl[ci]? = some (C, T, N)) (k : Nat) (hk : k < N) (hlink : (Cond.fieldLink own index ref (T k).2.1 (T k).2.2.1).before args s = true) (hsame : ∀ x, s.fieldFound? (T k).1 (T k).2.1 (T k).2.2.1 = some x → s.fieldFound? ref (T k).2.1 (T k).2.2.1 = some x) (hfin : (T k).2.2.2 = false) {ty : FieldType} {v : Value} (hd : parseFieldDescriptor (T k).2.2.1 = some ty) (hn : narrow ty v = v) (hfit : fits ty v = true) (hl : k < fs.length)
    (hdg : decode cc pc = .ok (.putfield index, 3)) (hw : ws.set q0 (a, .inr (ci, fs.set k v)) = w') (kk : ∀ (H : Heap) (locs : List Loc), va_P D cl w' H → va_D A w' → va_S A H0 H locs → W p l e R s m args below meth c H locs cells slots Q (F0 m (pc + 3) ls rest)) : W p l e R s m args below meth c H locs cells slots Q (F0 m pc ls (v :: .ref a :: rest)) := by
  subst hw
  exact va_put hexec hb hts hin ty0 hty hnm hown hK hP hD hS0 q0 he hc k hk hlink hsame hfin hd hn hfit hl hdg kk
end KWS
theorem kw_fin {k : Int32 × KS} {v : Int32} {S : KS} {f : KS → va_W} (h : k = (v, S)) : v = k.1 ∧ f S = f k.2 := by
  subst h
  exact ⟨rfl, rfl⟩
/-- a call's words, out of the one list -/
theorem kw_cB {R : Room} {s : State} {args : Array Value} {own : String} {index maxL n mc ms : Nat} {y : MethodName} {bytes : ByteArray} {ret : Option FieldType} {rm : Room} (hg : ∀ w ∈ GW, w.before args s = true) (hc : Cond.code y bytes maxL ret ∈ GW) (hi : Cond.initialized y.cls ∈ GW) (hl : Cond.methodLink own index y ∈ GW) (hy : y.cls ≠ "java/lang/invoke/MethodHandle" ∧ y.cls ≠ "java/lang/invoke/VarHandle") (hd : (parseMethodDescriptor y.desc).map (fun d => d.parameters.length) = some n) (hR : rm.frames + 1 ≤ R.frames ∧ 8 + (maxL + 11) + rm.locals ≤ R.locals) (hrc : rm.cells = mc) (hrs : rm.slots = ms) :
    CallB R s args own index y bytes maxL ret (Cond.code y bytes maxL ret :: GW) rm mc ms n :=
  ⟨hrc, hrs, hR.1, hR.2, fun w hw a' U hW => by
    rcases List.mem_cons.mp hw with h | h
    · subst h; exact word_at hW (good_of_word (GW_good _ hc)) (hg _ hc)
    · exact word_at hW (good_of_word (GW_good _ h)) (hg _ h), List.mem_cons_self, hg _ hc, hg _ hi, hy, fun sig h => by
    rw [h] at hd
    exact (Option.some.inj hd).symm, hg _ hl⟩
end
section
/-! pure numbers: the calendar, the level. Nothing here speaks of the machine. -/
-- the calendar: months counted from January 2000, days from 1 January 2000
def pm_first (m : Nat) : Nat := (1461 * ((m + 10) / 12) + 3) / 4 + (153 * ((m + 10) % 12) + 2) / 5 - 306
def pm_ylen (y : Nat) : Nat := if y % 4 = 0 then 366 else 365
def pm_mlen (y m : Nat) : Nat := if m = 1 then pm_ylen y - 337 else if m = 3 ∨ m = 5 ∨ m = 8 ∨ m = 10 then 30 else 31
theorem pm_first_year (y : Nat) : pm_first (12 * y) = (1461 * y + 3) / 4 := by
  unfold pm_first
  omega
theorem pm_first_ysucc (y : Nat) : pm_first (12 * (y + 1)) = pm_first (12 * y) + pm_ylen y := by
  rw [pm_first_year, pm_first_year]
  obtain ⟨q, hq⟩ : ∃ q, y = 4 * q ∨ y = 4 * q + 1 ∨ y = 4 * q + 2 ∨ y = 4 * q + 3 := ⟨y / 4, by omega⟩
  unfold pm_ylen
  rcases hq with rfl | rfl | rfl | rfl
  · rw [if_pos (by omega)]; omega
  · rw [if_neg (by omega)]; omega
  · rw [if_neg (by omega)]; omega
  · rw [if_neg (by omega)]; omega
theorem pm_first_msucc (y m : Nat) (h : m < 12) : pm_first (12 * y + m + 1) = pm_first (12 * y + m) + pm_mlen y m := by
  obtain ⟨q, hq⟩ : ∃ q, y = 4 * q ∨ y = 4 * q + 1 ∨ y = 4 * q + 2 ∨ y = 4 * q + 3 := ⟨y / 4, by omega⟩
  unfold pm_first pm_mlen pm_ylen
  have hc : m = 0 ∨ m = 1 ∨ m = 2 ∨ m = 3 ∨ m = 4 ∨ m = 5 ∨ m = 6 ∨ m = 7 ∨ m = 8 ∨ m = 9 ∨ m = 10 ∨ m = 11 := by omega
  rcases hc with rfl | rfl | rfl | rfl | rfl | rfl | rfl | rfl | rfl | rfl | rfl | rfl <;> rcases hq with rfl | rfl | rfl | rfl <;> simp <;> (try split) <;> omega
theorem pm_mlen_in (y m : Nat) : 28 ≤ pm_mlen y m ∧ pm_mlen y m ≤ 31 := by
  unfold pm_mlen pm_ylen
  split
  · split <;> omega
  · split <;> omega
theorem pm_first_succ (m : Nat) : pm_first m + 28 ≤ pm_first (m + 1) ∧ pm_first (m + 1) ≤ pm_first m + 31 := by
  have h := pm_first_msucc (m / 12) (m % 12) (by omega)
  rw [show 12 * (m / 12) + m % 12 = m by omega] at h
  have := pm_mlen_in (m / 12) (m % 12)
  omega
theorem pm_first_mono {a b : Nat} (h : a ≤ b) : pm_first a ≤ pm_first b := by
  induction h with
  | refl => exact Nat.le_refl _
  | step h ih =>
    rename_i n
    have := pm_first_succ n
    show pm_first a ≤ pm_first (n + 1)
    omega
theorem pm_first_lt {a b : Nat} (h : a < b) : pm_first a + 28 ≤ pm_first b := by
  have h1 := pm_first_succ a
  have h2 := pm_first_mono (a := a + 1) (b := b) h
  omega
/-- month mo holds day d -/
def pm_is (d mo : Nat) : Prop := pm_first mo ≤ d ∧ d < pm_first (mo + 1)
theorem pm_is_uniq {d a b : Nat} (ha : pm_is d a) (hb : pm_is d b) : a = b := by
  unfold pm_is at ha hb
  rcases Nat.lt_trichotomy a b with h | h | h
  · have := pm_first_mono (a := a + 1) (b := b) h
    omega
  · exact h
  · have := pm_first_mono (a := b + 1) (b := a) h
    omega
/-- the month of a day, as the class has it -/
def pm_month (d : Nat) : Nat := 12 * (4 * (d + 306) / 1461) + (5 * ((d + 306) - (1461 * (4 * (d + 306) / 1461) + 3) / 4) + 2) / 153 - 10
theorem pm_month_is (d : Nat) : pm_is d (pm_month d) := by
  unfold pm_is pm_month
  generalize hY : 4 * (d + 306) / 1461 = Y
  generalize hD : (d + 306) - (1461 * Y + 3) / 4 = D
  generalize hM : (5 * D + 2) / 153 = M
  have hD2 : D ≤ 365 := by omega
  have hM2 : M ≤ 11 := by omega
  have h10 : 10 ≤ 12 * Y + M := by omega
  unfold pm_first
  have e1 : (12 * Y + M - 10 + 10) / 12 = Y := by omega
  have e2 : (12 * Y + M - 10 + 10) % 12 = M := by omega
  rw [e1, e2]
  by_cases h11 : M = 11
  · have e3 : (12 * Y + M - 10 + 1 + 10) / 12 = Y + 1 := by omega
    have e4 : (12 * Y + M - 10 + 1 + 10) % 12 = 0 := by omega
    rw [e3, e4]
    constructor <;> omega
  · have e3 : (12 * Y + M - 10 + 1 + 10) / 12 = Y := by omega
    have e4 : (12 * Y + M - 10 + 1 + 10) % 12 = M + 1 := by omega
    rw [e3, e4]
    constructor <;> omega
/-- the number of a day in its month, from 1 -/
def pm_num (d : Nat) : Nat := d - pm_first (pm_month d) + 1
theorem pm_num_in (d : Nat) : 1 ≤ pm_num d ∧ pm_num d ≤ 31 ∧ pm_num d ≤ pm_mlen (pm_month d / 12) (pm_month d % 12) := by
  have h := pm_month_is d
  have hm := pm_first_msucc (pm_month d / 12) (pm_month d % 12) (by omega)
  rw [show 12 * (pm_month d / 12) + pm_month d % 12 = pm_month d by omega] at hm
  have h31 := pm_mlen_in (pm_month d / 12) (pm_month d % 12)
  unfold pm_is at h
  unfold pm_num
  omega
/-- the k-th due day of a loan opened on day d -/
def pm_due (d k : Nat) : Nat := min (pm_first (pm_month d + k) + pm_num d - 1) (pm_first (pm_month d + k + 1) - 1)
theorem pm_due_is (d k : Nat) : pm_is (pm_due d k) (pm_month d + k) := by
  have h1 := pm_num_in d
  have h2 := pm_first_succ (pm_month d + k)
  unfold pm_is pm_due
  omega
theorem pm_due_lt {d a b : Nat} (h : a < b) : pm_due d a < pm_due d b := by
  have h1 := pm_due_is d a
  have h2 := pm_due_is d b
  have h3 := pm_first_mono (a := pm_month d + a + 1) (b := pm_month d + b) (by omega)
  unfold pm_is at h1 h2
  omega
/-- two due days behind one another are 28 days apart at least -/
theorem pm_due_gap (d k : Nat) : pm_due d k + 28 ≤ pm_due d (k + 1) := by
  have h1 := pm_num_in d
  have h2 := pm_first_msucc ((pm_month d + k) / 12) ((pm_month d + k) % 12) (by omega)
  have h3 := pm_first_msucc ((pm_month d + k + 1) / 12) ((pm_month d + k + 1) % 12) (by omega)
  rw [show 12 * ((pm_month d + k) / 12) + (pm_month d + k) % 12 = pm_month d + k by omega] at h2
  rw [show 12 * ((pm_month d + k + 1) / 12) + (pm_month d + k + 1) % 12 = pm_month d + k + 1 by omega] at h3
  have h4 := pm_mlen_in ((pm_month d + k) / 12) ((pm_month d + k) % 12)
  have h5 := pm_mlen_in ((pm_month d + k + 1) / 12) ((pm_month d + k + 1) % 12)
  unfold pm_due
  have e : pm_month d + (k + 1) = pm_month d + k + 1 := by omega
  rw [e]
  omega
theorem pm_due_0 (d : Nat) : pm_due d 0 = d := by
  have h := pm_month_is d
  unfold pm_is at h
  unfold pm_due pm_num
  rw [Nat.add_zero]
  omega
theorem pm_due_ge (d k : Nat) : d + 28 * k ≤ pm_due d k := by
  induction k with
  | zero => rw [pm_due_0]; omega
  | succ k ih =>
    have := pm_due_gap d k
    omega
-- the level: what is left, due day by due day; I: the interest of a span on what is left
def pl_next (I : Nat → Nat) (L x : Nat) : Nat := x - (L - I x)
def pl_end : List (Nat → Nat) → Nat → Nat → Nat
  | [], _, x => x
  | I :: r, L, x => pl_end r L (pl_next I L x)
def pl_up (I : Nat → Nat) : Prop := ∀ x y, x ≤ y → I x ≤ I y
theorem pl_next_mono {I : Nat → Nat} (hI : pl_up I) {L M x y : Nat} (hL : M ≤ L) (h : x ≤ y) : pl_next I L x ≤ pl_next I M y := by
  have := hI x y h
  unfold pl_next
  omega
theorem pl_end_mono {Is : List (Nat → Nat)} (hI : ∀ I ∈ Is, pl_up I) {L M : Nat} (hL : M ≤ L) : ∀ {x y : Nat}, x ≤ y → pl_end Is L x ≤ pl_end Is M y := by
  induction Is with
  | nil => intro x y h; exact h
  | cons I r ih =>
    intro x y h
    exact ih (fun J hJ => hI J (List.mem_cons_of_mem _ hJ)) (pl_next_mono (hI I List.mem_cons_self) hL h)
theorem pl_end_0 (Is : List (Nat → Nat)) (L : Nat) : pl_end Is L 0 = 0 := by
  induction Is with
  | nil => rfl
  | cons I r ih =>
    show pl_end r L (pl_next I L 0) = 0
    rw [show pl_next I L 0 = 0 by unfold pl_next; omega]
    exact ih
theorem pl_end_L0 (Is : List (Nat → Nat)) (x : Nat) : pl_end Is 0 x = x := by
  induction Is generalizing x with
  | nil => rfl
  | cons I r ih =>
    show pl_end r 0 (pl_next I 0 x) = x
    rw [show pl_next I 0 x = x by unfold pl_next; omega]
    exact ih x
theorem pl_end_enough (I : Nat → Nat) (r : List (Nat → Nat)) (x : Nat) : pl_end (I :: r) (x + I x) x = 0 := by
  show pl_end r _ (pl_next I _ x) = 0
  rw [show pl_next I (x + I x) x = 0 by unfold pl_next; omega]
  exact pl_end_0 r _
theorem pl_next_le (I : Nat → Nat) (L x : Nat) : pl_next I L x ≤ x := by unfold pl_next; omega
theorem pl_end_le (Is : List (Nat → Nat)) (L x : Nat) : pl_end Is L x ≤ x := by
  induction Is generalizing x with
  | nil => exact Nat.le_refl _
  | cons I r ih => exact Nat.le_trans (ih _) (pl_next_le I L x)
/-- t is the least level: below it something is left, from it on nothing -/
def pl_is (P : Nat → Prop) (t : Nat) : Prop := ∀ x, P x ↔ x < t
theorem pl_is_uniq {P : Nat → Prop} {a b : Nat} (ha : pl_is P a) (hb : pl_is P b) : a = b := by
  have h1 := ha b
  have h2 := hb a
  have h3 := hb b
  have h4 := ha a
  rcases Nat.lt_trichotomy a b with h | h | h
  · exact absurd (h4.mp (h2.mpr h)) (Nat.lt_irrefl _)
  · exact h
  · exact absurd (h3.mp (h1.mpr h)) (Nat.lt_irrefl _)
theorem pl_is_ex {P : Nat → Prop} (hP : ∀ x y, x ≤ y → P y → P x) {h : Nat} (hh : ¬ P h) : ∃ t, t ≤ h ∧ pl_is P t := by
  obtain ⟨k, hk, hm⟩ := pk_least (fun n => ¬ P n) ⟨h, hh⟩
  refine ⟨k, Nat.not_lt.mp (fun q => hm h q hh), fun x => ⟨fun hx => Nat.not_le.mp (fun q => hk (hP k x q hx)), fun hx => Classical.byContradiction (hm x hx)⟩⟩
/-- by halving, as the class does it -/
def pl_bis (P : Nat → Bool) : Nat → Nat → Nat → Nat
  | 0, _, hi => hi
  | n + 1, lo, hi => if 1 < hi - lo then (if P (lo + (hi - lo) / 2) then pl_bis P n (lo + (hi - lo) / 2) hi else pl_bis P n lo (lo + (hi - lo) / 2)) else hi
theorem pl_bis_is {P : Nat → Bool} {t : Nat} (ht : pl_is (fun x => P x = true) t) : ∀ (n lo hi : Nat), lo < t → t ≤ hi → hi - lo ≤ 2 ^ n → pl_bis P n lo hi = t := by
  intro n
  induction n with
  | zero =>
    intro lo hi h1 h2 h3
    show hi = t
    omega
  | succ n ih =>
    intro lo hi h1 h2 h3
    rw [Nat.pow_succ] at h3
    show (if 1 < hi - lo then (if P (lo + (hi - lo) / 2) then pl_bis P n (lo + (hi - lo) / 2) hi else pl_bis P n lo (lo + (hi - lo) / 2)) else hi) = t
    split
    · have hm := ht (lo + (hi - lo) / 2)
      split
      · rename_i h
        exact ih _ _ (hm.mp h) h2 (by omega)
      · rename_i h
        exact ih _ _ h1 (Nat.not_lt.mp (fun q => h (hm.mpr q))) (by omega)
    · omega
/-- bit by bit, as the reference does it -/
def pl_bits (P : Nat → Bool) : Nat → Nat → Nat
  | 0, most => most
  | n + 1, most => pl_bits P n (if P (most + 2 ^ n) then most + 2 ^ n else most)
theorem pl_bits_is {P : Nat → Bool} {t : Nat} (ht : pl_is (fun x => P x = true) t) : ∀ (n most : Nat), most < t → t ≤ most + 2 ^ n → pl_bits P n most + 1 = t := by
  intro n
  induction n with
  | zero =>
    intro most h1 h2
    show most + 1 = t
    rw [Nat.pow_zero] at h2
    omega
  | succ n ih =>
    intro most h1 h2
    rw [Nat.pow_succ] at h2
    have hm := ht (most + 2 ^ n)
    show pl_bits P n (if P (most + 2 ^ n) then most + 2 ^ n else most) + 1 = t
    split
    · rename_i h
      exact ih _ (hm.mp h) (by omega)
    · rename_i h
      exact ih _ h1 (Nat.not_lt.mp (fun q => h (hm.mpr q)))
-- days in long years; the span of rule 3
def pg_long (x : Nat) : Nat := x / 1461 * 366 + min (x % 1461) 366
def pg_w (x : Nat) : Nat := pg_long x * 365 + (x - pg_long x) * 366
theorem pg_long_le (x : Nat) : pg_long x ≤ x := by unfold pg_long; omega
theorem pg_long_mono {a b : Nat} (h : a ≤ b) : pg_long a ≤ pg_long b ∧ pg_long b - pg_long a ≤ b - a := by unfold pg_long; omega
/-- inside one year the weight grows evenly -/
theorem pg_w_in (y : Nat) {a b : Nat} (h1 : pm_first (12 * y) ≤ a) (h2 : a ≤ b) (h3 : b ≤ pm_first (12 * (y + 1))) : pg_w b = pg_w a + (b - a) * (if pm_ylen y = 366 then 365 else 366) := by
  rw [pm_first_year] at h1 h3
  obtain ⟨q, hq⟩ : ∃ q, y = 4 * q ∨ y = 4 * q + 1 ∨ y = 4 * q + 2 ∨ y = 4 * q + 3 := ⟨y / 4, by omega⟩
  have hl : pg_long b - pg_long a = (if pm_ylen y = 366 then b - a else 0) := by
    rcases hq with rfl | rfl | rfl | rfl
    · rw [if_pos (show pm_ylen (4 * q) = 366 by unfold pm_ylen; rw [if_pos (by omega)])]; unfold pg_long; omega
    · rw [if_neg (show ¬ pm_ylen (4 * q + 1) = 366 by unfold pm_ylen; rw [if_neg (by omega)]; decide)]; unfold pg_long; omega
    · rw [if_neg (show ¬ pm_ylen (4 * q + 2) = 366 by unfold pm_ylen; rw [if_neg (by omega)]; decide)]; unfold pg_long; omega
    · rw [if_neg (show ¬ pm_ylen (4 * q + 3) = 366 by unfold pm_ylen; rw [if_neg (by omega)]; decide)]; unfold pg_long; omega
  have h4 := pg_long_mono h2
  have h5 := pg_long_le a
  have h6 := pg_long_le b
  unfold pg_w
  split at hl
  · rename_i h
    rw [if_pos h]
    omega
  · rename_i h
    rw [if_neg h]
    omega
theorem pg_w_mono {a b : Nat} (h : a ≤ b) : pg_w a ≤ pg_w b ∧ pg_w b - pg_w a ≤ (b - a) * 366 := by
  have h4 := pg_long_mono h
  have h5 := pg_long_le a
  have h6 := pg_long_le b
  unfold pg_w
  omega
end
