section
-- ===== PART A: goes FIRST, ahead of the names: the tables' words, and 'selects' of the private methods out of them =====
/-- a private method of a class that the tables say can be made, by its rows of tables_1 -/
def lw_okq (q : MethodName × Nat) : Prop := (q.1.cls ≠ "java/lang/invoke/MethodHandle" ∧ q.1.cls ≠ "java/lang/invoke/VarHandle") ∧ Cond.instantiable q.1.cls q.2 ∈ tables_1 ∧ Cond.privateMethod q.1 ∈ tables_1 ∧ Cond.instanceMethod q.1 ∈ tables_1
theorem lw_p0 : lw_okq (⟨"KeyTurner", "isSecret", "(I)Z"⟩, 11) := ⟨⟨by decide +kernel, by decide +kernel⟩, List.mem_of_getElem? (i := 15) (by decide +kernel), List.mem_of_getElem? (i := 204) (by decide +kernel), List.mem_of_getElem? (i := 205) (by decide +kernel)⟩
theorem lw_p1 : lw_okq (⟨"KeyTurner", "isHeldUp", "(I)Z"⟩, 11) := ⟨⟨by decide +kernel, by decide +kernel⟩, List.mem_of_getElem? (i := 15) (by decide +kernel), List.mem_of_getElem? (i := 243) (by decide +kernel), List.mem_of_getElem? (i := 244) (by decide +kernel)⟩
theorem lw_p2 : lw_okq (⟨"KeyTurner", "beginTurn", "(IZ)V"⟩, 11) := ⟨⟨by decide +kernel, by decide +kernel⟩, List.mem_of_getElem? (i := 15) (by decide +kernel), List.mem_of_getElem? (i := 251) (by decide +kernel), List.mem_of_getElem? (i := 252) (by decide +kernel)⟩
theorem lw_p3 : lw_okq (⟨"KeyTurner", "nextStir", "(I)I"⟩, 11) := ⟨⟨by decide +kernel, by decide +kernel⟩, List.mem_of_getElem? (i := 15) (by decide +kernel), List.mem_of_getElem? (i := 300) (by decide +kernel), List.mem_of_getElem? (i := 301) (by decide +kernel)⟩
theorem lw_p4 : lw_okq (⟨"KeyTurner", "goOn", "(LKeyTurner$Course;)V"⟩, 11) := ⟨⟨by decide +kernel, by decide +kernel⟩, List.mem_of_getElem? (i := 15) (by decide +kernel), List.mem_of_getElem? (i := 335) (by decide +kernel), List.mem_of_getElem? (i := 336) (by decide +kernel)⟩
theorem lw_p5 : lw_okq (⟨"KeyTurner", "opens", "(LKeyTurner$Secret;II)Z"⟩, 11) := ⟨⟨by decide +kernel, by decide +kernel⟩, List.mem_of_getElem? (i := 15) (by decide +kernel), List.mem_of_getElem? (i := 359) (by decide +kernel), List.mem_of_getElem? (i := 360) (by decide +kernel)⟩
theorem lw_p6 : lw_okq (⟨"KeyTurner", "noteAsk", "(LKeyTurner$Course;IIZ)I"⟩, 11) := ⟨⟨by decide +kernel, by decide +kernel⟩, List.mem_of_getElem? (i := 15) (by decide +kernel), List.mem_of_getElem? (i := 367) (by decide +kernel), List.mem_of_getElem? (i := 368) (by decide +kernel)⟩
theorem lw_p7 : lw_okq (⟨"KeyTurner", "nextOfPlan", "(I)I"⟩, 11) := ⟨⟨by decide +kernel, by decide +kernel⟩, List.mem_of_getElem? (i := 15) (by decide +kernel), List.mem_of_getElem? (i := 413) (by decide +kernel), List.mem_of_getElem? (i := 414) (by decide +kernel)⟩
theorem lw_p8 : lw_okq (⟨"KeyTurner", "turnsGoingOn", "()I"⟩, 11) := ⟨⟨by decide +kernel, by decide +kernel⟩, List.mem_of_getElem? (i := 15) (by decide +kernel), List.mem_of_getElem? (i := 429) (by decide +kernel), List.mem_of_getElem? (i := 430) (by decide +kernel)⟩
theorem lw_p9 : lw_okq (⟨"KeyTurner", "lettersUnanswered", "()I"⟩, 11) := ⟨⟨by decide +kernel, by decide +kernel⟩, List.mem_of_getElem? (i := 15) (by decide +kernel), List.mem_of_getElem? (i := 433) (by decide +kernel), List.mem_of_getElem? (i := 434) (by decide +kernel)⟩
theorem lw_p10 : lw_okq (⟨"KeyTurner", "secretsPastLife", "()I"⟩, 11) := ⟨⟨by decide +kernel, by decide +kernel⟩, List.mem_of_getElem? (i := 15) (by decide +kernel), List.mem_of_getElem? (i := 437) (by decide +kernel), List.mem_of_getElem? (i := 438) (by decide +kernel)⟩
theorem lw_p11 : lw_okq (⟨"java/lang/Throwable", "fillInStackTrace", "(I)Ljava/lang/Throwable;"⟩, 6) := ⟨⟨by decide +kernel, by decide +kernel⟩, List.mem_of_getElem? (i := 486) (by decide +kernel), List.mem_of_getElem? (i := 484) (by decide +kernel), List.mem_of_getElem? (i := 485) (by decide +kernel)⟩
theorem lw_p12 : lw_okq (⟨"KeyTurnerModel", "isSecret", "(I)Z"⟩, 43) := ⟨⟨by decide +kernel, by decide +kernel⟩, List.mem_of_getElem? (i := 516) (by decide +kernel), List.mem_of_getElem? (i := 664) (by decide +kernel), List.mem_of_getElem? (i := 665) (by decide +kernel)⟩
theorem lw_p13 : lw_okq (⟨"KeyTurnerModel", "hangsOn", "(II)Z"⟩, 43) := ⟨⟨by decide +kernel, by decide +kernel⟩, List.mem_of_getElem? (i := 516) (by decide +kernel), List.mem_of_getElem? (i := 668) (by decide +kernel), List.mem_of_getElem? (i := 669) (by decide +kernel)⟩
theorem lw_p14 : lw_okq (⟨"KeyTurnerModel", "take", "(I)V"⟩, 43) := ⟨⟨by decide +kernel, by decide +kernel⟩, List.mem_of_getElem? (i := 516) (by decide +kernel), List.mem_of_getElem? (i := 697) (by decide +kernel), List.mem_of_getElem? (i := 698) (by decide +kernel)⟩
theorem lw_p15 : lw_okq (⟨"KeyTurnerModel", "act", "(I)V"⟩, 43) := ⟨⟨by decide +kernel, by decide +kernel⟩, List.mem_of_getElem? (i := 516) (by decide +kernel), List.mem_of_getElem? (i := 701) (by decide +kernel), List.mem_of_getElem? (i := 702) (by decide +kernel)⟩
def lw_privs_1 : List (MethodName × Nat) := [(⟨"KeyTurner", "isSecret", "(I)Z"⟩, 11), (⟨"KeyTurner", "isHeldUp", "(I)Z"⟩, 11), (⟨"KeyTurner", "beginTurn", "(IZ)V"⟩, 11), (⟨"KeyTurner", "nextStir", "(I)I"⟩, 11), (⟨"KeyTurner", "goOn", "(LKeyTurner$Course;)V"⟩, 11), (⟨"KeyTurner", "opens", "(LKeyTurner$Secret;II)Z"⟩, 11), (⟨"KeyTurner", "noteAsk", "(LKeyTurner$Course;IIZ)I"⟩, 11), (⟨"KeyTurner", "nextOfPlan", "(I)I"⟩, 11), (⟨"KeyTurner", "turnsGoingOn", "()I"⟩, 11), (⟨"KeyTurner", "lettersUnanswered", "()I"⟩, 11), (⟨"KeyTurner", "secretsPastLife", "()I"⟩, 11), (⟨"java/lang/Throwable", "fillInStackTrace", "(I)Ljava/lang/Throwable;"⟩, 6), (⟨"KeyTurnerModel", "isSecret", "(I)Z"⟩, 43), (⟨"KeyTurnerModel", "hangsOn", "(II)Z"⟩, 43), (⟨"KeyTurnerModel", "take", "(I)V"⟩, 43), (⟨"KeyTurnerModel", "act", "(I)V"⟩, 43)]
theorem lw_r1 : ∀ q ∈ lw_privs_1, lw_okq q := List.forall_mem_cons.mpr ⟨lw_p0, List.forall_mem_cons.mpr ⟨lw_p1, List.forall_mem_cons.mpr ⟨lw_p2, List.forall_mem_cons.mpr ⟨lw_p3, List.forall_mem_cons.mpr ⟨lw_p4, List.forall_mem_cons.mpr ⟨lw_p5, List.forall_mem_cons.mpr ⟨lw_p6, List.forall_mem_cons.mpr ⟨lw_p7, List.forall_mem_cons.mpr ⟨lw_p8, List.forall_mem_cons.mpr ⟨lw_p9, List.forall_mem_cons.mpr ⟨lw_p10, List.forall_mem_cons.mpr ⟨lw_p11, List.forall_mem_cons.mpr ⟨lw_p12, List.forall_mem_cons.mpr ⟨lw_p13, List.forall_mem_cons.mpr ⟨lw_p14, List.forall_mem_cons.mpr ⟨lw_p15, fun _ h => absurd h List.not_mem_nil⟩⟩⟩⟩⟩⟩⟩⟩⟩⟩⟩⟩⟩⟩⟩⟩
theorem lw_p16 : lw_okq (⟨"KeyTurnerModel", "goesOn", "(I)V"⟩, 43) := ⟨⟨by decide +kernel, by decide +kernel⟩, List.mem_of_getElem? (i := 516) (by decide +kernel), List.mem_of_getElem? (i := 705) (by decide +kernel), List.mem_of_getElem? (i := 706) (by decide +kernel)⟩
theorem lw_p17 : lw_okq (⟨"KeyTurnerModel", "isOver", "(I)Z"⟩, 43) := ⟨⟨by decide +kernel, by decide +kernel⟩, List.mem_of_getElem? (i := 516) (by decide +kernel), List.mem_of_getElem? (i := 709) (by decide +kernel), List.mem_of_getElem? (i := 710) (by decide +kernel)⟩
theorem lw_p18 : lw_okq (⟨"KeyTurnerModel", "next", "(I)I"⟩, 43) := ⟨⟨by decide +kernel, by decide +kernel⟩, List.mem_of_getElem? (i := 516) (by decide +kernel), List.mem_of_getElem? (i := 713) (by decide +kernel), List.mem_of_getElem? (i := 714) (by decide +kernel)⟩
theorem lw_p19 : lw_okq (⟨"KeyTurnerModel", "begins", "(II)V"⟩, 43) := ⟨⟨by decide +kernel, by decide +kernel⟩, List.mem_of_getElem? (i := 516) (by decide +kernel), List.mem_of_getElem? (i := 717) (by decide +kernel), List.mem_of_getElem? (i := 718) (by decide +kernel)⟩
theorem lw_p20 : lw_okq (⟨"KeyTurnerModel", "write", "(IIZ)V"⟩, 43) := ⟨⟨by decide +kernel, by decide +kernel⟩, List.mem_of_getElem? (i := 516) (by decide +kernel), List.mem_of_getElem? (i := 724) (by decide +kernel), List.mem_of_getElem? (i := 725) (by decide +kernel)⟩
theorem lw_p21 : lw_okq (⟨"KeyTurnerModel", "start", "(IZ)V"⟩, 43) := ⟨⟨by decide +kernel, by decide +kernel⟩, List.mem_of_getElem? (i := 516) (by decide +kernel), List.mem_of_getElem? (i := 733) (by decide +kernel), List.mem_of_getElem? (i := 734) (by decide +kernel)⟩
theorem lw_p22 : lw_okq (⟨"KeyTurnerModel", "isHolder", "(II)Z"⟩, 43) := ⟨⟨by decide +kernel, by decide +kernel⟩, List.mem_of_getElem? (i := 516) (by decide +kernel), List.mem_of_getElem? (i := 745) (by decide +kernel), List.mem_of_getElem? (i := 746) (by decide +kernel)⟩
theorem lw_p23 : lw_okq (⟨"KeyTurnerModel", "isChecker", "(II)Z"⟩, 43) := ⟨⟨by decide +kernel, by decide +kernel⟩, List.mem_of_getElem? (i := 516) (by decide +kernel), List.mem_of_getElem? (i := 749) (by decide +kernel), List.mem_of_getElem? (i := 750) (by decide +kernel)⟩
theorem lw_p24 : lw_okq (⟨"KeyTurnerModel", "asks", "(IIIIZ)I"⟩, 43) := ⟨⟨by decide +kernel, by decide +kernel⟩, List.mem_of_getElem? (i := 516) (by decide +kernel), List.mem_of_getElem? (i := 753) (by decide +kernel), List.mem_of_getElem? (i := 754) (by decide +kernel)⟩
theorem lw_p25 : lw_okq (⟨"KeyTurnerModel", "isGood", "(III)Z"⟩, 43) := ⟨⟨by decide +kernel, by decide +kernel⟩, List.mem_of_getElem? (i := 516) (by decide +kernel), List.mem_of_getElem? (i := 757) (by decide +kernel), List.mem_of_getElem? (i := 758) (by decide +kernel)⟩
theorem lw_p26 : lw_okq (⟨"KeyTurnerModel", "age", "(I)I"⟩, 43) := ⟨⟨by decide +kernel, by decide +kernel⟩, List.mem_of_getElem? (i := 516) (by decide +kernel), List.mem_of_getElem? (i := 769) (by decide +kernel), List.mem_of_getElem? (i := 770) (by decide +kernel)⟩
theorem lw_p27 : lw_okq (⟨"KeyTurnerModel", "lockedOut", "(I)I"⟩, 43) := ⟨⟨by decide +kernel, by decide +kernel⟩, List.mem_of_getElem? (i := 516) (by decide +kernel), List.mem_of_getElem? (i := 774) (by decide +kernel), List.mem_of_getElem? (i := 775) (by decide +kernel)⟩
def lw_privs_2 : List (MethodName × Nat) := [(⟨"KeyTurnerModel", "goesOn", "(I)V"⟩, 43), (⟨"KeyTurnerModel", "isOver", "(I)Z"⟩, 43), (⟨"KeyTurnerModel", "next", "(I)I"⟩, 43), (⟨"KeyTurnerModel", "begins", "(II)V"⟩, 43), (⟨"KeyTurnerModel", "write", "(IIZ)V"⟩, 43), (⟨"KeyTurnerModel", "start", "(IZ)V"⟩, 43), (⟨"KeyTurnerModel", "isHolder", "(II)Z"⟩, 43), (⟨"KeyTurnerModel", "isChecker", "(II)Z"⟩, 43), (⟨"KeyTurnerModel", "asks", "(IIIIZ)I"⟩, 43), (⟨"KeyTurnerModel", "isGood", "(III)Z"⟩, 43), (⟨"KeyTurnerModel", "age", "(I)I"⟩, 43), (⟨"KeyTurnerModel", "lockedOut", "(I)I"⟩, 43)]
theorem lw_r2 : ∀ q ∈ lw_privs_2, lw_okq q := List.forall_mem_cons.mpr ⟨lw_p16, List.forall_mem_cons.mpr ⟨lw_p17, List.forall_mem_cons.mpr ⟨lw_p18, List.forall_mem_cons.mpr ⟨lw_p19, List.forall_mem_cons.mpr ⟨lw_p20, List.forall_mem_cons.mpr ⟨lw_p21, List.forall_mem_cons.mpr ⟨lw_p22, List.forall_mem_cons.mpr ⟨lw_p23, List.forall_mem_cons.mpr ⟨lw_p24, List.forall_mem_cons.mpr ⟨lw_p25, List.forall_mem_cons.mpr ⟨lw_p26, List.forall_mem_cons.mpr ⟨lw_p27, fun _ h => absurd h List.not_mem_nil⟩⟩⟩⟩⟩⟩⟩⟩⟩⟩⟩⟩
def lw_privs : List (MethodName × Nat) := lw_privs_1 ++ (lw_privs_2)
def lw_tbl : List Cond := k2_sels lw_privs ++ tables_1
theorem lw_privs_ok : ∀ q ∈ lw_privs, lw_okq q := by
  show ∀ q ∈ lw_privs_1 ++ (lw_privs_2), lw_okq q
  exact List.forall_mem_append.mpr ⟨lw_r1, lw_r2⟩
end
section
/-! ===== BEGIN words of one list among another's, by their places ===== -/
theorem goodIn_r {big : List Cond} (ws : List Cond) (ps : List Nat) (hp : ws = ps.filterMap (fun i => big[i]?)) (h : ws.all goodWord = true) : GoodIn big ws := by
  intro w hw
  have h1 := List.all_eq_true.mp h w hw
  rw [hp] at hw
  obtain ⟨i, -, hi⟩ := List.mem_filterMap.mp hw
  have hm : w ∈ big := by first | exact List.mem_of_getElem? hi | exact List.getElem?_mem hi
  exact ⟨hm, good_of_word h1⟩
theorem goodIn_app {big a b : List Cond} (ha : GoodIn big a) (hb : GoodIn big b) : GoodIn big (a ++ b) := fun w h => (List.mem_append.mp h).elim (ha w) (hb w)
theorem goodIn_ca {big a b : List Cond} {c : Cond} (ha : GoodIn big (c :: a)) (hb : GoodIn big b) : GoodIn big (c :: (a ++ b)) := fun w h => (List.mem_cons.mp h).elim (fun e => ha w (List.mem_cons.mpr (Or.inl e))) (fun h => (List.mem_append.mp h).elim (fun h => ha w (List.mem_cons.mpr (Or.inr h))) (hb w))
theorem goodIn_sub {big ws : List Cond} (hm : ∀ w ∈ ws, w ∈ big) (h : ws.all goodWord = true) : GoodIn big ws := fun w hw => ⟨hm w hw, good_of_word (List.all_eq_true.mp h w hw)⟩
/-! ===== END ===== -/

/-! ===== BEGIN exceptions that leave a method, and their catching by the caller (launches without stack traces) ===== -/
section VXA
/-! The laws vx_back, vx_callV, vx_callS, vx_callSW, vx_throw0, vx_throwS follow proofs of the library, with one case more: JvmDerived/Free/Laws.lean (Back.of_free), Shelf42/LK1.lean (callV, callS), Shelf/KitTraced.lean (throwNew0V, throwNewS). -/
/-- where a method has thrown q: the class by its name, the cell, what was written, the world -/
def vx_T (XC : String → State → State → Prop) (st : State) (q : Addr) (t : State) (mc ms : Nat) (free : Addr → Prop) : Prop :=
  ∃ (E : String) (ce : Cell) (L : List Loc), XC E st t ∧ t.heap[q]? = some ce ∧ ce.vm = .none ∧ st.vm.findClass E = some ce.cls ∧ st.WarmedH t.vm ∧ st.sameButNew ({ t with vm := st.vm } : State) L mc ms ∧ ∀ z ∈ L, free z.base
def vx_Q (Qc : Array Value → State → Outcome → State → Prop) (XC : String → State → State → Prop) (mc ms : Nat) (free : Addr → Prop) : Array Value → State → Outcome → State → Prop := fun a st o t =>
  (Qc a st o t ∧ ∃ L, FrameEnd st o t L mc ms ∧ ∀ q ∈ L, free q.base) ∨ ∃ q, o = .threw q ∧ vx_T XC st q t mc ms free
/-- a callee that returns or throws -/
def vx_Met (l : Launch) (y : MethodName) (ws : List Cond) (rm : Room) (Pc : Array Value → State → Prop) (Qc : Array Value → State → Outcome → State → Prop) (XC : String → State → State → Prop) (mc ms : Nat) (free : Addr → Prop) : Prop :=
  MetFree l y (headSpec ws rm) Pc (fun _ _ _ _ _ => True) (vx_Q Qc XC mc ms free)
def vx_Post (XC : String → State → State → Prop) (mc ms : Nat) (free : Addr → Prop) : Pt → Array Value → Addr → Pt → Prop := fun A a q B =>
  ∃ (g : JFrame) (mk : MethodId) (t : State) (L : List Loc) (E : String) (ce : Cell), B.U.heap = t.heap ∧ B.U.vm = t.vm ∧ XC E (A.U.calling g mk a) t ∧ t.heap[q]? = some ce ∧ ce.vm = .none ∧ A.U.vm.findClass E = some ce.cls ∧ B.locs = A.locs ++ L ∧ (∀ z ∈ L, free z.base) ∧ B.cells = A.cells + mc ∧ B.slots = A.slots + ms
def vx_Back (l : Launch) (R : Room) (p : Program) (e : Env) (below : List Frame) (s : State) (sargs : Array Value) (y : MethodName) (len W9 : Nat)
    (Pre : Pt → Array Value → Prop) (Post : Pt → Array Value → Option Value → Pt → Prop) (PostX : Pt → Array Value → Addr → Pt → Prop) : Prop :=
  ∀ (m : MethodId) (meth : Method) (c : Code) (A : Pt) (g : JFrame) (ig : Instr) (mk : MethodId) (a : Array Value),
    Stand p l e R s m sargs below meth c A.U A.locs A.cells A.slots → g.method = m → g.locals.size = c.maxLocals → decode c.code g.pc = .ok (ig, len) →
    2 * g.monitorRoom + (g.stack.map fun v => v.category).sum ≤ W9 → A.U.methodNamed? y = some mk → Pre A a →
    (∃ (v : Option Value) (B : Pt), Stand p l e R s m sargs below meth c B.U B.locs B.cells B.slots ∧ Post A a v B ∧
      Steps p.tables e below (doInvoke e (A.U.setTop g) [] mk a).1 (B.U.setTop { g with pc := g.pc + len, stack := v.toList ++ g.stack })) ∨
    (∃ (q : Addr) (B : Pt), Stand p l e R s m sargs below meth c B.U B.locs B.cells B.slots ∧ PostX A a q B ∧
      Steps p.tables e below (doInvoke e (A.U.setTop g) [] mk a).1 ((B.U.setTop g).pushFrame (.throwing q)))
section Payer
variable {l : Launch} {R : Room} {p : Program} {e : Env} {below : List Frame} {s : State} {sargs : Array Value} {y : MethodName} {len W9 : Nat}
theorem vx_back {ws : List Cond} {rm : Room} {Pc : Array Value → State → Prop} {Qc : Array Value → State → Outcome → State → Prop} {XC : String → State → State → Prop} {mc ms : Nat} {free : Addr → Prop} {bytes : ByteArray} {maxL : Nat} {ret : Option FieldType}
    (hM : vx_Met l y ws rm Pc Qc XC mc ms free) (hblind : FrameBlind Pc) (hrc : rm.cells = mc) (hrs : rm.slots = ms)
    (hframes : rm.frames + 1 ≤ R.frames) (hlocals : W9 + (maxL + 11) + rm.locals ≤ R.locals)
    (hws : ∀ w ∈ ws, ∀ a' U, s.WarmedH U.vm → w.before a' U = true) (hcode : Cond.code y bytes maxL ret ∈ ws) (hinit : ∀ a' U, s.WarmedH U.vm → (Cond.initialized y.cls).before a' U = true) :
    vx_Back l R p e below s sargs y len W9 (PreOf R mc ms Pc) (PostOf Qc mc ms free) (vx_Post XC mc ms free) := by
  intro m meth c A g ig mk a X hg hsize hdg hW hn hp
  have h1 : (headSpec ws rm).pre.before a A.U = true := atoms_intro fun w hw => hws w hw _ _ X.warmed
  have h2 : (Cond.code y bytes maxL ret).before a A.U = true := hws _ hcode _ _ X.warmed
  have h3 : (Cond.initialized y.cls).before a A.U = true := hinit _ _ X.warmed
  have h4 : A.cells + (headSpec ws rm).room.cells ≤ R.cells := by rw [show (headSpec ws rm).room.cells = mc from hrc]; exact hp.1
  have h5 : A.slots + (headSpec ws rm).room.slots ≤ R.slots := by rw [show (headSpec ws rm).room.slots = ms from hrs]; exact hp.2.1
  have hPc : Pc a (A.U.calling g mk a) := hblind _ _ _ _ hp.2.2
  obtain ⟨U, Ls, c0, s0⟩ := A
  dsimp only [Pt.U, Pt.locs, Pt.cells, Pt.slots] at h1 h2 h3 h4 h5 X hn hPc ⊢
  obtain ⟨methY, cY, hmY, hcY, -, hlY, -, -, -, -⟩ := Cond.code_spec hn h2
  obtain ⟨kY, hkY, -⟩ := className_of_methodNamed hn
  have hinitY : kY.init = .initialized := Cond.initialized_spec (findClass_of_methodNamed hn) hkY h3
  have h : At U g.method c below := by rw [hg]; exact X.here
  have hlocals9 : W9 + (maxL + 11) + (headSpec ws rm).room.locals ≤ R.locals := hlocals
  have happ : (headSpec ws rm).appliesLoose y e.platform (U.calling g mk a) = true :=
    Spec.appliesLoose_calling (g := g) h hdg hn hkY hinitY
      (X.room_calling (g := g) (R' := (headSpec ws rm).room) hsize hmY hcY hframes (by rw [hlY]; omega) h4 h5) h1
  obtain ⟨mid, hmid⟩ := h.above
  have hfr : (U.setTop g).frames = (.java g :: mid) ++ below := by rw [State.frames_setTop' g h.top, hmid]; rfl
  obtain ⟨o, s₂, hsteps, -, hend, hq⟩ := Steps.callFree hM p X.admits X.cas X.clock (acts := []) hfr happ hPc trivial
  have hq' : vx_Q Qc XC mc ms free a (U.calling g mk a) o s₂ := hq
  rw [State.frames_setTop' g h.top] at hend
  obtain ⟨g₀, hg0⟩ := Option.isSome_iff_exists.mp h.top
  obtain ⟨r, hr⟩ := State.topJava?_eq_some.mp hg0
  have hr' : (({ U with heap := s₂.heap, slotsUsed := s₂.slotsUsed } : State).setVm s₂.vm).frames = .java g₀ :: r := hr
  rcases hq' with ⟨hqc, L, hfe, hL⟩ | ⟨q, rfl, E, ce, L, hx, hce, hcv, hcl, hW₂, hsm, hL⟩
  · obtain ⟨⟨v, rfl⟩, hW₂, e2, q2, q3, q4, q5, q6⟩ := id hfe
    have e3 : s₂ = ({ (U.calling g mk a).setFrames s₂.frames with heap := s₂.heap, slotsUsed := s₂.slotsUsed } : State).setVm s₂.vm := by
      have : s₂ = ({ s₂ with vm := (U.calling g mk a).vm } : State).setVm s₂.vm := rfl
      rw [e2] at this
      exact this
    obtain ⟨c₂, i₂, len₂, hc₂, hd₂, hf₂⟩ := hend
    have hW' : U.WarmedH s₂.vm := hW₂
    have hcc : c₂ = c := by
      have h1 : s₂.code? g.method = U.code? g.method := by
        rw [State.code?_eq, State.code?_eq, hW'.alike.method?]
      exact Option.some.inj (hc₂.symm.trans (h1.trans h.code))
    subst hcc
    have hlen : len₂ = len := by rw [hdg] at hd₂; cases hd₂; rfl
    subst hlen
    have hs₂ : s₂ = (({ U with heap := s₂.heap, slotsUsed := s₂.slotsUsed } : State).setVm s₂.vm).setTop { g with pc := g.pc + len₂, stack := v.toList ++ g.stack } := by
      refine e3.trans ?_
      rw [hf₂, State.calling_eq h.top, State.setFrames_setFrames, State.setTop_of_frames _ hr', hr]
      rfl
    have hsame : U.sameButNew ({ U with heap := s₂.heap, slotsUsed := s₂.slotsUsed } : State) L mc ms := by
      refine ⟨?_, q2, q3, q4, q5, q6⟩
      obtain ⟨t, ht, -⟩ := State.frames_cons hr
      show ({ U with heap := s₂.heap, slotsUsed := s₂.slotsUsed } : State) = { U.setFrames U.frames with heap := s₂.heap, slotsUsed := s₂.slotsUsed }
      rw [State.setFrames_self ht]
    subst hg
    refine Or.inl ⟨v, ⟨(({ U with heap := s₂.heap, slotsUsed := s₂.slotsUsed } : State).setVm s₂.vm), Ls ++ L, c0 + mc, s0 + ms⟩,
      ⟨X.admits, X.cas, X.clock, X.frames, X.room, X.hears, X.method, X.code, (X.here.setHeapUsed s₂.heap s₂.slotsUsed).setVm hW'.alike, X.tail, State.WarmedH.trans X.warmed hW', X.limits, X.bytes, X.same.trans (hsame.setVm s.vm)⟩,
      ⟨g, mk, s₂, L, rfl, rfl, hqc, rfl, hL, rfl, rfl⟩, ?_⟩
    show Steps p.tables e below _ ((({ U with heap := s₂.heap, slotsUsed := s₂.slotsUsed } : State).setVm s₂.vm).setTop { g with pc := g.pc + len₂, stack := v.toList ++ g.stack })
    rw [← hs₂]
    exact hsteps
  · obtain ⟨e2, q2, q3, q4, q5, q6⟩ := id hsm
    have e3 : s₂ = ({ (U.calling g mk a).setFrames s₂.frames with heap := s₂.heap, slotsUsed := s₂.slotsUsed } : State).setVm s₂.vm := by
      have : s₂ = ({ s₂ with vm := (U.calling g mk a).vm } : State).setVm s₂.vm := rfl
      rw [e2] at this
      exact this
    have hf₂ : s₂.frames = .throwing q :: .java g :: U.frames.tail := hend
    have hW' : U.WarmedH s₂.vm := hW₂
    have hs₂ : s₂ = ((({ U with heap := s₂.heap, slotsUsed := s₂.slotsUsed } : State).setVm s₂.vm).setTop g).pushFrame (.throwing q) := by
      refine e3.trans ?_
      rw [hf₂, State.calling_eq h.top, State.setFrames_setFrames, State.pushFrame, State.frames_setTop _ hr', State.setTop_of_frames _ hr', State.setFrames_setFrames, hr]
      rfl
    have hsame : U.sameButNew ({ U with heap := s₂.heap, slotsUsed := s₂.slotsUsed } : State) L mc ms := by
      refine ⟨?_, q2, q3, q4, q5, q6⟩
      obtain ⟨t, ht, -⟩ := State.frames_cons hr
      show ({ U with heap := s₂.heap, slotsUsed := s₂.slotsUsed } : State) = { U.setFrames U.frames with heap := s₂.heap, slotsUsed := s₂.slotsUsed }
      rw [State.setFrames_self ht]
    subst hg
    refine Or.inr ⟨q, ⟨(({ U with heap := s₂.heap, slotsUsed := s₂.slotsUsed } : State).setVm s₂.vm), Ls ++ L, c0 + mc, s0 + ms⟩,
      ⟨X.admits, X.cas, X.clock, X.frames, X.room, X.hears, X.method, X.code, (X.here.setHeapUsed s₂.heap s₂.slotsUsed).setVm hW'.alike, X.tail, State.WarmedH.trans X.warmed hW', X.limits, X.bytes, X.same.trans (hsame.setVm s.vm)⟩,
      ⟨g, mk, s₂, L, E, ce, rfl, rfl, hx, hce, hcv, hcl, rfl, hL, rfl, rfl⟩, ?_⟩
    show Steps p.tables e below _ (((({ U with heap := s₂.heap, slotsUsed := s₂.slotsUsed } : State).setVm s₂.vm).setTop g).pushFrame (.throwing q))
    rw [← hs₂]
    exact hsteps
end Payer
section Calls
variable {p : Program} {l : Launch} {e : Env} {R : Room} {s : State} {m : MethodId} {args : Array Value} {below : List Frame} {meth : Method} {c : Code} {T : State} {locs : List Loc} {cells slots : Nat}
theorem vx_callV (X : Stand p l e R s m args below meth c T locs cells slots) (hexec : p.tables.exec = Jvm.exec) {own C : String} {index : Nat} {y : MethodName} {bytes : ByteArray} {maxL : Nat} {ret : Option FieldType}
    (hown : s.vm.findClass own = some m.cls) (hlink : (Cond.methodLink own index y).before args s = true) (hinst : (Cond.instanceMethod y).before args s = true) (hsel : (Cond.selects C y y).before args s = true)
    (hcode : (Cond.code y bytes maxL ret).before args s = true) (hy : y.cls ≠ "java/lang/invoke/MethodHandle" ∧ y.cls ≠ "java/lang/invoke/VarHandle")
    {W9 : Nat} {Pre : Pt → Array Value → Prop} {Post : Pt → Array Value → Option Value → Pt → Prop} {PostX : Pt → Array Value → Addr → Pt → Prop} (hK : vx_Back l R p e below s args y 3 W9 Pre Post PostX)
    {b : Addr} {cellB : Cell} (hcell : T.heap[b]? = some cellB) (hobj : cellB.vm.isStatics = false) (hcls : s.vm.findClass C = some cellB.cls)
    {g : JFrame} (hg : g.method = m) (hsize : g.locals.size = c.maxLocals) {argsL rest : List Value} (hlen : ∀ sig, parseMethodDescriptor y.desc = some sig → argsL.length = sig.parameters.length)
    (hstack : g.stack = argsL.reverse ++ .ref b :: rest) (hW : 2 * g.monitorRoom + (rest.map fun v => v.category).sum ≤ W9) (hdg : decode c.code g.pc = .ok (.invokevirtual index, 3))
    (hpre : ∀ vm₁, s.WarmedH vm₁ → Pre ⟨T.setVm vm₁, locs, cells, slots⟩ (Value.ref b :: argsL).toArray) :
    (∃ (v : Option Value) (vm₁ : Vm) (B : Pt), s.WarmedH vm₁ ∧ Stand p l e R s m args below meth c B.U B.locs B.cells B.slots ∧ Post ⟨T.setVm vm₁, locs, cells, slots⟩ (Value.ref b :: argsL).toArray v B ∧
      ∀ target, Steps p.tables e below (B.U.setTop { g with pc := g.pc + 3, stack := v.toList ++ rest }) target → Steps p.tables e below (T.setTop g) target) ∨
    (∃ (q : Addr) (vm₁ : Vm) (B : Pt), s.WarmedH vm₁ ∧ Stand p l e R s m args below meth c B.U B.locs B.cells B.slots ∧ PostX ⟨T.setVm vm₁, locs, cells, slots⟩ (Value.ref b :: argsL).toArray q B ∧
      Steps p.tables e below (T.setTop g) ((B.U.setTop { g with stack := rest }).pushFrame (.throwing q))) := by
  obtain ⟨mk, methM, hnamed, hmethM, hstM, habM⟩ := Cond.instanceMethod_spec hinst
  obtain ⟨methM', cM, hmethM', -, -, -, -, -, -, hsigM⟩ := Cond.code_spec hnamed hcode
  cases hmethM.symm.trans hmethM'
  obtain ⟨c2, r2, m2, q1, q2, q3, q4, kP, hkP, hkPi⟩ := Cond.selects_spec hsel
  cases hcls.symm.trans q1
  cases (State.methodFound?_of_named hnamed hy).symm.trans q2
  cases hnamed.symm.trans q3
  have hselP : selectMethod e.platform s.vm cellB.cls mk = .method mk := by rw [Launch.admits_selectMethod X.admits]; exact q4
  obtain ⟨vm₁, X₁, hstep₁⟩ := X.invokevirtual hexec hown hlink hnamed hmethM hstM hkP hkPi hy (a := b) (cell := cellB) hcell
    (fun z h => by rw [h] at hobj; cases hobj) hselP hmethM habM hkP hkPi (g := g) hg (argsL := argsL) (rest := rest) (hlen _ hsigM) hstack hdg
  rcases hK m meth c ⟨T.setVm vm₁, locs, cells, slots⟩ { g with stack := rest } (.invokevirtual index) mk (Value.ref b :: argsL).toArray X₁ hg hsize hdg hW (X₁.named hnamed) (hpre vm₁ X₁.warmed) with ⟨v, B, X', hpost, hsteps⟩ | ⟨q, B, X', hpost, hsteps⟩
  · exact Or.inl ⟨v, vm₁, B, X₁.warmed, X', hpost, fun target h => hstep₁ _ fun acts => by rw [doInvoke_state]; exact hsteps.trans h⟩
  · exact Or.inr ⟨q, vm₁, B, X₁.warmed, X', hpost, hstep₁ _ fun acts => by rw [doInvoke_state]; exact hsteps⟩
theorem vx_callS (X : Stand p l e R s m args below meth c T locs cells slots) (hexec : p.tables.exec = Jvm.exec) {own : String} {index : Nat} {y : MethodName} {bytes : ByteArray} {maxL : Nat} {ret : Option FieldType}
    (hown : s.vm.findClass own = some m.cls) (hlink : (Cond.methodLink own index y).before args s = true) (hstat : (Cond.static y).before args s = true) (hinit : (Cond.initialized y.cls).before args s = true)
    (hcode : (Cond.code y bytes maxL ret).before args s = true) (hy : y.cls ≠ "java/lang/invoke/MethodHandle" ∧ y.cls ≠ "java/lang/invoke/VarHandle")
    {W9 : Nat} {Pre : Pt → Array Value → Prop} {Post : Pt → Array Value → Option Value → Pt → Prop} {PostX : Pt → Array Value → Addr → Pt → Prop} (hK : vx_Back l R p e below s args y 3 W9 Pre Post PostX)
    {g : JFrame} (hg : g.method = m) (hsize : g.locals.size = c.maxLocals) {argsL rest : List Value} (hlen : ∀ sig, parseMethodDescriptor y.desc = some sig → argsL.length = sig.parameters.length)
    (hstack : g.stack = argsL.reverse ++ rest) (hW : 2 * g.monitorRoom + (rest.map fun v => v.category).sum ≤ W9) (hdg : decode c.code g.pc = .ok (.invokestatic index, 3))
    (hpre : ∀ vm₁, s.WarmedH vm₁ → Pre ⟨T.setVm vm₁, locs, cells, slots⟩ argsL.toArray) :
    (∃ (v : Option Value) (vm₁ : Vm) (B : Pt), s.WarmedH vm₁ ∧ Stand p l e R s m args below meth c B.U B.locs B.cells B.slots ∧ Post ⟨T.setVm vm₁, locs, cells, slots⟩ argsL.toArray v B ∧
      ∀ target, Steps p.tables e below (B.U.setTop { g with pc := g.pc + 3, stack := v.toList ++ rest }) target → Steps p.tables e below (T.setTop g) target) ∨
    (∃ (q : Addr) (vm₁ : Vm) (B : Pt), s.WarmedH vm₁ ∧ Stand p l e R s m args below meth c B.U B.locs B.cells B.slots ∧ PostX ⟨T.setVm vm₁, locs, cells, slots⟩ argsL.toArray q B ∧
      Steps p.tables e below (T.setTop g) ((B.U.setTop { g with stack := rest }).pushFrame (.throwing q))) := by
  obtain ⟨mk, hnamed⟩ := Cond.code_named hcode
  obtain ⟨methM, cM, hmethM, -, -, -, -, -, -, hsigM⟩ := Cond.code_spec hnamed hcode
  have hstatic : methM.isStatic = true := Cond.static_spec hnamed hmethM hstat
  obtain ⟨kP, hkP, -⟩ := className_of_methodNamed hnamed
  have hinitP : kP.init = .initialized := Cond.initialized_spec (findClass_of_methodNamed hnamed) hkP hinit
  obtain ⟨vm₁, X₁, hstep₁⟩ := X.invokestatic hexec hown hlink hnamed hmethM hstatic hkP hinitP hy (g := g) hg (argsL := argsL) (rest := rest) (hlen _ hsigM) hstack hdg
  rcases hK m meth c ⟨T.setVm vm₁, locs, cells, slots⟩ { g with stack := rest } (.invokestatic index) mk argsL.toArray X₁ hg hsize hdg hW (X₁.named hnamed) (hpre vm₁ X₁.warmed) with ⟨v, B, X', hpost, hsteps⟩ | ⟨q, B, X', hpost, hsteps⟩
  · exact Or.inl ⟨v, vm₁, B, X₁.warmed, X', hpost, fun target h => hstep₁ _ fun acts => by rw [doInvoke_state]; exact hsteps.trans h⟩
  · exact Or.inr ⟨q, vm₁, B, X₁.warmed, X', hpost, hstep₁ _ fun acts => by rw [doInvoke_state]; exact hsteps⟩
end Calls
theorem vx_cls {s : State} {T : State} {vm₁ : Vm} {E : String} {k : ClassId} (hW : s.WarmedH vm₁) (h : (T.setVm vm₁).vm.findClass E = some k) : s.vm.findClass E = some k := by
  have h1 : vm₁.findClass E = some k := h
  rw [hW.alike.findClass] at h1
  exact h1
/-- the method's frame g, with q thrown over it -/
def vx_W (p : Program) (l : Launch) (e : Env) (R : Room) (s : State) (m : MethodId) (args : Array Value) (below : List Frame) (meth : Method) (c : Code) (H : Heap) (locs : List Loc) (cells slots : Nat) (Q : State → Prop) (g : JFrame) (q : Addr) : Prop :=
  ∀ T : State, T.heap = H → Stand p l e R s m args below meth c T locs cells slots → ∃ t, Steps p.tables e below ((T.setTop g).pushFrame (.throwing q)) t ∧ Q t
def vx_Run (p : Program) (l : Launch) (e : Env) (R : Room) (s : State) (m : MethodId) (args : Array Value) (below : List Frame) (meth : Method) (c : Code) (H : Heap) (locs : List Loc) (cells slots mc ms : Nat) (g : JFrame) (rest : List Value) (Qa : State → Outcome → State → Prop) (XC : String → State → State → Prop) (free : Addr → Prop) : Prop :=
  ∀ T : State, T.heap = H → Stand p l e R s m args below meth c T locs cells slots →
    (∃ (v : Option Value) (st₀ t T' : State) (L : List Loc), st₀.heap = H ∧ Stand p l e R s m args below meth c T' (locs ++ L) (cells + mc) (slots + ms) ∧ (∀ q ∈ L, free q.base) ∧ T'.heap = t.heap ∧ T'.vm = t.vm ∧ Qa st₀ (.returned v) t ∧
      Goes p e below T g T' { g with pc := g.pc + 3, stack := v.toList ++ rest }) ∨
    (∃ (q : Addr) (st₀ t T' : State) (L : List Loc) (E : String) (ce : Cell), st₀.heap = H ∧ Stand p l e R s m args below meth c T' (locs ++ L) (cells + mc) (slots + ms) ∧ (∀ z ∈ L, free z.base) ∧ T'.heap = t.heap ∧ T'.vm = t.vm ∧ XC E st₀ t ∧ t.heap[q]? = some ce ∧ ce.vm = .none ∧ s.vm.findClass E = some ce.cls ∧
      Steps p.tables e below (T.setTop g) ((T'.setTop { g with stack := rest }).pushFrame (.throwing q)))
def vx_X {S : Type} (px : S → Prop) (B : String → S → State → Prop) (A : Nat → Prop) : String → State → State → Prop := fun E st t => ∃ u : S, px u ∧ B E u t ∧ va_F A st t
section Runs
variable {p : Program} {l : Launch} {e : Env} {R : Room} {s : State} {m : MethodId} {args : Array Value} {below : List Frame} {meth : Method} {c : Code} {H : Heap} {locs : List Loc} {cells slots : Nat}
variable {y : MethodName} {bytes cc : ByteArray} {maxL nL mc ms n index : Nat} {ret : Option FieldType} {ws : List Cond} {rm : Room} {Pc : Array Value → State → Prop} {Qc : Array Value → State → Outcome → State → Prop} {XC : String → State → State → Prop} {free : Addr → Prop} {Ts : List Cond} {own C : String} {b : Addr} {As rest : List Value} {g : JFrame}
theorem vx_callBack (cb : CallB R s args own index y bytes maxL ret ws rm mc ms n) (hM : vx_Met l y ws rm Pc Qc XC mc ms free) (hbl : FrameBlind Pc) : vx_Back l R p e below s args y 3 8 (PreOf R mc ms Pc) (PostOf Qc mc ms free) (vx_Post XC mc ms free) := by
  obtain ⟨hrc, hrs, hfr, hlo, hws, hcw, -, hini, -⟩ := cb
  exact vx_back (bytes := bytes) (maxL := maxL) (ret := ret) hM hbl hrc hrs hfr hlo hws hcw (fun a' U hW => word_at hW (Or.inl (by first | rfl | simp [Cond.onTables, Cond.keeps, Cond.steady])) hini)
theorem vx_runV (S : CallFix p m c cc nL s args Ts own) (hM : vx_Met l y ws rm Pc Qc XC mc ms free) (cw : CallW R s args own C index y bytes maxL ret ws rm mc ms n) (hp : PreV s H C b Pc As)
    (hg : g.method = m) (hn : As.length = n) (hsize : g.locals.size = nL) (hstack : g.stack = As.reverse ++ .ref b :: rest) (hW : 2 * g.monitorRoom + (rest.map fun v => v.category).sum ≤ 8) (hdg : decode cc g.pc = .ok (.invokevirtual index, 3)) (hf : cells + mc ≤ R.cells ∧ slots + ms ≤ R.slots) :
    vx_Run p l e R s m args below meth c H locs cells slots mc ms g rest (Qc (Value.ref b :: As).toArray) XC free := by
  have hK : vx_Back l R p e below s args y 3 8 (PreOf R mc ms Pc) (PostOf Qc mc ms free) (vx_Post XC mc ms free) := vx_callBack cw.1 hM hp.1
  obtain ⟨⟨-, -, -, -, -, -, hcode, -, hy, hlen, hl⟩, hin, hse⟩ := cw
  obtain ⟨hx, hb, hml, ho, -⟩ := S
  obtain ⟨-, ⟨cellB, hcB, hoB, hclB⟩, hPc⟩ := hp
  intro T hT X
  rcases vx_callV X hx (C := C) (bytes := bytes) (maxL := maxL) (ret := ret) ho hl hin hse hcode hy hK (by rw [hT]; exact hcB) hoB hclB hg (hsize.trans hml.symm) (argsL := As) (rest := rest) (fun sig h => hn.trans (hlen sig h)) hstack hW (by rw [hb]; exact hdg)
    (fun vm₁ hW₁ => ⟨hf.1, hf.2, hPc (T.setVm vm₁) hT hW₁⟩) with ⟨v, vm₁, ⟨U', l2, c2, s2⟩, hW₁, X', ⟨g', mk, t, L, e1, e2, hq, h1, hL, h2, h3⟩, st⟩ | ⟨q, vm₁, ⟨U', l2, c2, s2⟩, hW₁, X', ⟨g', mk, t, L, E, ce, e1, e2, hq, hce, hcv, hcl, h1, hL, h2, h3⟩, st⟩
  · dsimp only [Pt.U, Pt.locs, Pt.cells, Pt.slots] at X' e1 e2 h1 h2 h3 st
    subst h1; subst h2; subst h3
    exact Or.inl ⟨v, (T.setVm vm₁).calling g' mk (Value.ref b :: As).toArray, t, U', L, hT, X', hL, e1, e2, hq, st⟩
  · dsimp only [Pt.U, Pt.locs, Pt.cells, Pt.slots] at X' e1 e2 h1 h2 h3 st hcl
    subst h1; subst h2; subst h3
    exact Or.inr ⟨q, (T.setVm vm₁).calling g' mk (Value.ref b :: As).toArray, t, U', L, E, ce, hT, X', hL, e1, e2, hq, hce, hcv, vx_cls hW₁ hcl, st⟩
theorem vx_runS (S : CallFix p m c cc nL s args Ts own) (hM : vx_Met l y ws rm Pc Qc XC mc ms free) (cw : CallB R s args own index y bytes maxL ret ws rm mc ms n ∧ (Cond.static y).before args s = true) (hp : PreS s H Pc As)
    (hg : g.method = m) (hn : As.length = n) (hsize : g.locals.size = nL) (hstack : g.stack = As.reverse ++ rest) (hW : 2 * g.monitorRoom + (rest.map fun v => v.category).sum ≤ 8) (hdg : decode cc g.pc = .ok (.invokestatic index, 3)) (hf : cells + mc ≤ R.cells ∧ slots + ms ≤ R.slots) :
    vx_Run p l e R s m args below meth c H locs cells slots mc ms g rest (Qc As.toArray) XC free := by
  have hK : vx_Back l R p e below s args y 3 8 (PreOf R mc ms Pc) (PostOf Qc mc ms free) (vx_Post XC mc ms free) := vx_callBack cw.1 hM hp.1
  obtain ⟨⟨-, -, -, -, -, -, hcode, hini, hy, hlen, hl⟩, hstt⟩ := cw
  obtain ⟨hx, hb, hml, ho, -⟩ := S
  intro T hT X
  rcases vx_callS X hx (bytes := bytes) (maxL := maxL) (ret := ret) ho hl hstt hini hcode hy hK hg (hsize.trans hml.symm) (argsL := As) (rest := rest) (fun sig h => hn.trans (hlen sig h)) hstack hW (by rw [hb]; exact hdg)
    (fun vm₁ hW₁ => ⟨hf.1, hf.2, hp.2 (T.setVm vm₁) hT hW₁⟩) with ⟨v, vm₁, ⟨U', l2, c2, s2⟩, hW₁, X', ⟨g', mk, t, L, e1, e2, hq, h1, hL, h2, h3⟩, st⟩ | ⟨q, vm₁, ⟨U', l2, c2, s2⟩, hW₁, X', ⟨g', mk, t, L, E, ce, e1, e2, hq, hce, hcv, hcl, h1, hL, h2, h3⟩, st⟩
  · dsimp only [Pt.U, Pt.locs, Pt.cells, Pt.slots] at X' e1 e2 h1 h2 h3 st
    subst h1; subst h2; subst h3
    exact Or.inl ⟨v, (T.setVm vm₁).calling g' mk As.toArray, t, U', L, hT, X', hL, e1, e2, hq, st⟩
  · dsimp only [Pt.U, Pt.locs, Pt.cells, Pt.slots] at X' e1 e2 h1 h2 h3 st hcl
    subst h1; subst h2; subst h3
    exact Or.inr ⟨q, (T.setVm vm₁).calling g' mk As.toArray, t, U', L, E, ce, hT, X', hL, e1, e2, hq, hce, hcv, vx_cls hW₁ hcl, st⟩
end Runs
section Rows
variable {p : Program} {l : Launch} {e : Env} {R : Room} {s : State} {m : MethodId} {args : Array Value} {below : List Frame} {meth : Method} {c : Code} {H : Heap} {locs : List Loc} {cells slots : Nat} {Q : State → Prop}
variable {mc ms : Nat} {free : Addr → Prop} {A0 A1 : Nat → Prop} {H0 : Heap} {a : Array Value} {pc : Nat} {ls : Array Slot} {st0 rest : List Value}
theorem vx_keep {st₀ t T' : State} {L : List Loc} (h0 : st₀.heap = H) (e1 : T'.heap = t.heap) (hS : va_S A0 H0 H locs) (hA : ∀ q, q < H.size → A1 q → A0 q) (hf : ∀ q, free q → A0 q) (hL : ∀ q ∈ L, free q.base) (hF : va_F A1 st₀ t) :
    H.size ≤ T'.heap.size ∧ (∀ q : Nat, q < H.size → ¬ A1 q → T'.heap[q]? = H[q]?) ∧ va_S A0 H0 T'.heap (locs ++ L) := by
  obtain ⟨hz, hk⟩ := hF
  rw [h0] at hz hk
  exact ⟨by rw [e1]; exact hz, fun q h1 h2 => by rw [e1]; exact hk q h1 h2,
    ⟨Nat.le_trans hS.1 (by rw [e1]; exact hz), fun q h1 h2 => by rw [e1, hk q (Nat.lt_of_lt_of_le h1 hS.1) (fun z => h2 (hA q (Nat.lt_of_lt_of_le h1 hS.1) z))]; exact hS.2.1 q h1 h2, fun q hq => by
      rcases List.mem_append.mp hq with h | h
      · exact hS.2.2 q h
      · exact hf _ (hL q h)⟩⟩
theorem vx_calli {S SX : Type} {post : Int32 → S → Prop} {px : SX → Prop} {B : S → State → Prop} {BX : String → SX → State → Prop} {AX : Nat → Prop} (hr : vx_Run p l e R s m args below meth c H locs cells slots mc ms (F0 m pc ls st0) rest (va_Qi post B A1 a) (vx_X px BX AX) free) (hS : va_S A0 H0 H locs) (hA : ∀ q, q < H.size → A1 q → A0 q) (hf : ∀ q, free q → A0 q) (hAX : ∀ q, q < H.size → AX q → A0 q)
    (kx : ∀ (E : String) (ce : Cell) (q9 : Addr) (u : SX) (t : State) (H1 : Heap) (locs1 : List Loc), t.heap = H1 → s.vm.Alike t.vm → px u → BX E u t → H.size ≤ H1.size → (∀ q : Nat, q < H.size → ¬ AX q → H1[q]? = H[q]?) → va_S A0 H0 H1 locs1 → H1[q9]? = some ce → ce.vm = .none → s.vm.findClass E = some ce.cls → vx_W p l e R s m args below meth c H1 locs1 (cells + mc) (slots + ms) Q (F0 m pc ls rest) q9)
    (kk : ∀ (r : Int32) (u : S) (t : State) (H1 : Heap) (locs1 : List Loc), t.heap = H1 → s.vm.Alike t.vm → post r u → B u t → H.size ≤ H1.size → (∀ q : Nat, q < H.size → ¬ A1 q → H1[q]? = H[q]?) → va_S A0 H0 H1 locs1 → W p l e R s m args below meth c H1 locs1 (cells + mc) (slots + ms) Q (F0 m (pc + 3) ls (.int r :: rest))) : W p l e R s m args below meth c H locs cells slots Q (F0 m pc ls st0) := by
  intro T hT X
  rcases hr T hT X with ⟨v, st₀, t, T', L, h0, X', hL, e1, e2, ⟨⟨r, u, hv, hp, hb⟩, hF⟩, st⟩ | ⟨q, st₀, t, T', L, E, ce, h0, X', hL, e1, e2, ⟨u, hp, hb, hF⟩, hce, hcv, hcl, st⟩
  · cases hv
    obtain ⟨k1, k2, k3⟩ := vx_keep h0 e1 hS hA hf hL hF
    obtain ⟨t2, a1, b1⟩ := kk r u t T'.heap (locs ++ L) e1.symm (by rw [← e2]; exact X'.warmed.alike) hp hb k1 k2 k3 T' rfl X'
    exact ⟨t2, st t2 a1, b1⟩
  · obtain ⟨k1, k2, k3⟩ := vx_keep h0 e1 hS hAX hf hL hF
    obtain ⟨t2, a1, b1⟩ := kx E ce q u t T'.heap (locs ++ L) e1.symm (by rw [← e2]; exact X'.warmed.alike) hp hb k1 k2 k3 (by rw [e1]; exact hce) hcv hcl T' rfl X'
    exact ⟨t2, st.trans a1, b1⟩
theorem vx_calll {S SX : Type} {post : Int64 → S → Prop} {px : SX → Prop} {B : S → State → Prop} {BX : String → SX → State → Prop} {AX : Nat → Prop} (hr : vx_Run p l e R s m args below meth c H locs cells slots mc ms (F0 m pc ls st0) rest (va_Ql post B A1 a) (vx_X px BX AX) free) (hS : va_S A0 H0 H locs) (hA : ∀ q, q < H.size → A1 q → A0 q) (hf : ∀ q, free q → A0 q) (hAX : ∀ q, q < H.size → AX q → A0 q)
    (kx : ∀ (E : String) (ce : Cell) (q9 : Addr) (u : SX) (t : State) (H1 : Heap) (locs1 : List Loc), t.heap = H1 → s.vm.Alike t.vm → px u → BX E u t → H.size ≤ H1.size → (∀ q : Nat, q < H.size → ¬ AX q → H1[q]? = H[q]?) → va_S A0 H0 H1 locs1 → H1[q9]? = some ce → ce.vm = .none → s.vm.findClass E = some ce.cls → vx_W p l e R s m args below meth c H1 locs1 (cells + mc) (slots + ms) Q (F0 m pc ls rest) q9)
    (kk : ∀ (r : Int64) (u : S) (t : State) (H1 : Heap) (locs1 : List Loc), t.heap = H1 → s.vm.Alike t.vm → post r u → B u t → H.size ≤ H1.size → (∀ q : Nat, q < H.size → ¬ A1 q → H1[q]? = H[q]?) → va_S A0 H0 H1 locs1 → W p l e R s m args below meth c H1 locs1 (cells + mc) (slots + ms) Q (F0 m (pc + 3) ls (.long r :: rest))) : W p l e R s m args below meth c H locs cells slots Q (F0 m pc ls st0) := by
  intro T hT X
  rcases hr T hT X with ⟨v, st₀, t, T', L, h0, X', hL, e1, e2, ⟨⟨r, u, hv, hp, hb⟩, hF⟩, st⟩ | ⟨q, st₀, t, T', L, E, ce, h0, X', hL, e1, e2, ⟨u, hp, hb, hF⟩, hce, hcv, hcl, st⟩
  · cases hv
    obtain ⟨k1, k2, k3⟩ := vx_keep h0 e1 hS hA hf hL hF
    obtain ⟨t2, a1, b1⟩ := kk r u t T'.heap (locs ++ L) e1.symm (by rw [← e2]; exact X'.warmed.alike) hp hb k1 k2 k3 T' rfl X'
    exact ⟨t2, st t2 a1, b1⟩
  · obtain ⟨k1, k2, k3⟩ := vx_keep h0 e1 hS hAX hf hL hF
    obtain ⟨t2, a1, b1⟩ := kx E ce q u t T'.heap (locs ++ L) e1.symm (by rw [← e2]; exact X'.warmed.alike) hp hb k1 k2 k3 (by rw [e1]; exact hce) hcv hcl T' rfl X'
    exact ⟨t2, st.trans a1, b1⟩
theorem vx_callf {S SX : Type} {post : UInt32 → S → Prop} {px : SX → Prop} {B : S → State → Prop} {BX : String → SX → State → Prop} {AX : Nat → Prop} (hr : vx_Run p l e R s m args below meth c H locs cells slots mc ms (F0 m pc ls st0) rest (va_Qf post B A1 a) (vx_X px BX AX) free) (hS : va_S A0 H0 H locs) (hA : ∀ q, q < H.size → A1 q → A0 q) (hf : ∀ q, free q → A0 q) (hAX : ∀ q, q < H.size → AX q → A0 q)
    (kx : ∀ (E : String) (ce : Cell) (q9 : Addr) (u : SX) (t : State) (H1 : Heap) (locs1 : List Loc), t.heap = H1 → s.vm.Alike t.vm → px u → BX E u t → H.size ≤ H1.size → (∀ q : Nat, q < H.size → ¬ AX q → H1[q]? = H[q]?) → va_S A0 H0 H1 locs1 → H1[q9]? = some ce → ce.vm = .none → s.vm.findClass E = some ce.cls → vx_W p l e R s m args below meth c H1 locs1 (cells + mc) (slots + ms) Q (F0 m pc ls rest) q9)
    (kk : ∀ (r : UInt32) (u : S) (t : State) (H1 : Heap) (locs1 : List Loc), t.heap = H1 → s.vm.Alike t.vm → post r u → B u t → H.size ≤ H1.size → (∀ q : Nat, q < H.size → ¬ A1 q → H1[q]? = H[q]?) → va_S A0 H0 H1 locs1 → W p l e R s m args below meth c H1 locs1 (cells + mc) (slots + ms) Q (F0 m (pc + 3) ls (.float r :: rest))) : W p l e R s m args below meth c H locs cells slots Q (F0 m pc ls st0) := by
  intro T hT X
  rcases hr T hT X with ⟨v, st₀, t, T', L, h0, X', hL, e1, e2, ⟨⟨r, u, hv, hp, hb⟩, hF⟩, st⟩ | ⟨q, st₀, t, T', L, E, ce, h0, X', hL, e1, e2, ⟨u, hp, hb, hF⟩, hce, hcv, hcl, st⟩
  · cases hv
    obtain ⟨k1, k2, k3⟩ := vx_keep h0 e1 hS hA hf hL hF
    obtain ⟨t2, a1, b1⟩ := kk r u t T'.heap (locs ++ L) e1.symm (by rw [← e2]; exact X'.warmed.alike) hp hb k1 k2 k3 T' rfl X'
    exact ⟨t2, st t2 a1, b1⟩
  · obtain ⟨k1, k2, k3⟩ := vx_keep h0 e1 hS hAX hf hL hF
    obtain ⟨t2, a1, b1⟩ := kx E ce q u t T'.heap (locs ++ L) e1.symm (by rw [← e2]; exact X'.warmed.alike) hp hb k1 k2 k3 (by rw [e1]; exact hce) hcv hcl T' rfl X'
    exact ⟨t2, st.trans a1, b1⟩
theorem vx_calld {S SX : Type} {post : UInt64 → S → Prop} {px : SX → Prop} {B : S → State → Prop} {BX : String → SX → State → Prop} {AX : Nat → Prop} (hr : vx_Run p l e R s m args below meth c H locs cells slots mc ms (F0 m pc ls st0) rest (va_Qd post B A1 a) (vx_X px BX AX) free) (hS : va_S A0 H0 H locs) (hA : ∀ q, q < H.size → A1 q → A0 q) (hf : ∀ q, free q → A0 q) (hAX : ∀ q, q < H.size → AX q → A0 q)
    (kx : ∀ (E : String) (ce : Cell) (q9 : Addr) (u : SX) (t : State) (H1 : Heap) (locs1 : List Loc), t.heap = H1 → s.vm.Alike t.vm → px u → BX E u t → H.size ≤ H1.size → (∀ q : Nat, q < H.size → ¬ AX q → H1[q]? = H[q]?) → va_S A0 H0 H1 locs1 → H1[q9]? = some ce → ce.vm = .none → s.vm.findClass E = some ce.cls → vx_W p l e R s m args below meth c H1 locs1 (cells + mc) (slots + ms) Q (F0 m pc ls rest) q9)
    (kk : ∀ (r : UInt64) (u : S) (t : State) (H1 : Heap) (locs1 : List Loc), t.heap = H1 → s.vm.Alike t.vm → post r u → B u t → H.size ≤ H1.size → (∀ q : Nat, q < H.size → ¬ A1 q → H1[q]? = H[q]?) → va_S A0 H0 H1 locs1 → W p l e R s m args below meth c H1 locs1 (cells + mc) (slots + ms) Q (F0 m (pc + 3) ls (.double r :: rest))) : W p l e R s m args below meth c H locs cells slots Q (F0 m pc ls st0) := by
  intro T hT X
  rcases hr T hT X with ⟨v, st₀, t, T', L, h0, X', hL, e1, e2, ⟨⟨r, u, hv, hp, hb⟩, hF⟩, st⟩ | ⟨q, st₀, t, T', L, E, ce, h0, X', hL, e1, e2, ⟨u, hp, hb, hF⟩, hce, hcv, hcl, st⟩
  · cases hv
    obtain ⟨k1, k2, k3⟩ := vx_keep h0 e1 hS hA hf hL hF
    obtain ⟨t2, a1, b1⟩ := kk r u t T'.heap (locs ++ L) e1.symm (by rw [← e2]; exact X'.warmed.alike) hp hb k1 k2 k3 T' rfl X'
    exact ⟨t2, st t2 a1, b1⟩
  · obtain ⟨k1, k2, k3⟩ := vx_keep h0 e1 hS hAX hf hL hF
    obtain ⟨t2, a1, b1⟩ := kx E ce q u t T'.heap (locs ++ L) e1.symm (by rw [← e2]; exact X'.warmed.alike) hp hb k1 k2 k3 (by rw [e1]; exact hce) hcv hcl T' rfl X'
    exact ⟨t2, st.trans a1, b1⟩
theorem vx_callv {S SX : Type} {post : S → Prop} {px : SX → Prop} {B : S → State → Prop} {BX : String → SX → State → Prop} {AX : Nat → Prop} (hr : vx_Run p l e R s m args below meth c H locs cells slots mc ms (F0 m pc ls st0) rest (va_Qv post B A1 a) (vx_X px BX AX) free) (hS : va_S A0 H0 H locs) (hA : ∀ q, q < H.size → A1 q → A0 q) (hf : ∀ q, free q → A0 q) (hAX : ∀ q, q < H.size → AX q → A0 q)
    (kx : ∀ (E : String) (ce : Cell) (q9 : Addr) (u : SX) (t : State) (H1 : Heap) (locs1 : List Loc), t.heap = H1 → s.vm.Alike t.vm → px u → BX E u t → H.size ≤ H1.size → (∀ q : Nat, q < H.size → ¬ AX q → H1[q]? = H[q]?) → va_S A0 H0 H1 locs1 → H1[q9]? = some ce → ce.vm = .none → s.vm.findClass E = some ce.cls → vx_W p l e R s m args below meth c H1 locs1 (cells + mc) (slots + ms) Q (F0 m pc ls rest) q9)
    (kk : ∀ (u : S) (t : State) (H1 : Heap) (locs1 : List Loc), t.heap = H1 → s.vm.Alike t.vm → post u → B u t → H.size ≤ H1.size → (∀ q : Nat, q < H.size → ¬ A1 q → H1[q]? = H[q]?) → va_S A0 H0 H1 locs1 → W p l e R s m args below meth c H1 locs1 (cells + mc) (slots + ms) Q (F0 m (pc + 3) ls (rest))) : W p l e R s m args below meth c H locs cells slots Q (F0 m pc ls st0) := by
  intro T hT X
  rcases hr T hT X with ⟨v, st₀, t, T', L, h0, X', hL, e1, e2, ⟨⟨u, hv, hp, hb⟩, hF⟩, st⟩ | ⟨q, st₀, t, T', L, E, ce, h0, X', hL, e1, e2, ⟨u, hp, hb, hF⟩, hce, hcv, hcl, st⟩
  · cases hv
    obtain ⟨k1, k2, k3⟩ := vx_keep h0 e1 hS hA hf hL hF
    obtain ⟨t2, a1, b1⟩ := kk u t T'.heap (locs ++ L) e1.symm (by rw [← e2]; exact X'.warmed.alike) hp hb k1 k2 k3 T' rfl X'
    exact ⟨t2, st t2 a1, b1⟩
  · obtain ⟨k1, k2, k3⟩ := vx_keep h0 e1 hS hAX hf hL hF
    obtain ⟨t2, a1, b1⟩ := kx E ce q u t T'.heap (locs ++ L) e1.symm (by rw [← e2]; exact X'.warmed.alike) hp hb k1 k2 k3 (by rw [e1]; exact hce) hcv hcl T' rfl X'
    exact ⟨t2, st.trans a1, b1⟩
/-- a throw that the first row of this method's table catches: its entry is linked (the tables are warmed by that), the frame goes on at the handler -/
theorem kt_caught {T : State} (X : Stand p l e R s m args below meth c T locs cells slots) (a : Addr) {g : JFrame} (hg : g.method = m) {cell : Cell} (hcell : T.heap[a]? = some cell) (hobj : cell.vm.isStatics = false) (hk0 : ∃ k, s.vm.classes[cell.cls]? = some k)
    (x : ExceptionTableEntry) (suf : List ExceptionTableEntry) (hsplit : c.exceptionTable.toList = x :: suf) (hx : covers x g.pc = true) (h0 : x.catchType ≠ 0) {cT : ClassId} (hl : s.vm.ClassLinks e.platform m.cls x.catchType cT) (hfit : s.vm.assignable cell.cls cT = true) :
    ∃ vm' : Vm, Stand p l e R s m args below meth c (T.setVm vm') locs cells slots ∧ Steps p.tables e below ((T.setTop g).pushFrame (.throwing a)) ((T.setVm vm').setTop { g with pc := x.handlerPc, stack := [.ref a] }) := by
  subst hg
  have hWT : s.WarmedH T.vm := X.warmed
  obtain ⟨dk, -, -, kt, hd, -, -, -, -, hkt, -, hopen⟩ := id hl.here
  obtain ⟨k0, hk0⟩ := hk0
  have hlT : T.vm.ClassLinks e.platform g.method.cls x.catchType cT := hWT.classLinks hl
  have hWn : s.WarmedH (T.vm.noted g.method.cls x.catchType (.cls cT)) := hWT.noted hd hopen (State.rightAt_cls hl)
  obtain ⟨k1, hk1, -⟩ := hWn.alike.2.2 _ _ hk0
  obtain ⟨k2, hk2, -⟩ := hWn.alike.2.2 _ _ hkt
  have hfitn : (T.vm.noted g.method.cls x.catchType (.cls cT)).assignable cell.cls cT = true := by rw [hWn.alike.assignable]; exact hfit
  have hne : ∀ k, cell.vm ≠ .statics k := fun k => VmData.ne_statics_of hobj k
  have hfind : ∀ (Q : Handler → Pre) (E : CtlPost) (d : Bool) (acts : List Action), wp (findHandler g a) Q E e d acts ((T.setTop g).pushFrame (.throwing a)) ↔ Q (.found x.handlerPc) d acts (((T.setTop g).pushFrame (.throwing a)).setVm (T.vm.noted g.method.cls x.catchType (.cls cT))) := by
    intro Q E d acts
    have hm : ((T.setTop g).pushFrame (.throwing a)).vm.method? g.method = some meth := X.method'
    rw [W.findHandler_eq hm X.code, hsplit]
    have hl' : ((T.setTop g).pushFrame (.throwing a)).vm.ClassLinks e.platform g.method.cls x.catchType cT := hlT
    obtain ⟨ha, ht⟩ := (resolveClass_links e.toSetting hl').op (op := VmOp.resolveClass g.method.cls x.catchType) rfl
    have hc' : ((T.setTop g).pushFrame (.throwing a)).heap[a]? = some cell := hcell
    have e1 : ((T.setTop g).pushFrame (.throwing a)).vm = T.vm := rfl
    rw [e1] at ha ht
    simp only [covers] at hx
    simp [findHandler.go, hx, h0, ha, ht, hc', hne, hk1, hk2, hfitn, VmOp.dirties, VmOp.acts, e1]
  refine ⟨_, X.noted hWn, ?_⟩
  obtain ⟨hgo, hw⟩ := X.here.throwing (g := g) a
  refine Steps.head hgo hw ?_
  obtain ⟨g0, hg0⟩ := Option.isSome_iff_exists.mp X.here.top
  obtain ⟨r, hr⟩ := State.topJava?_eq_some.mp hg0
  have hstep : (stepThrowing e ((T.setTop g).pushFrame (.throwing a)) a (.java g :: T.frames.tail)).Is ((((T.setTop g).pushFrame (.throwing a)).setVm (T.vm.noted g.method.cls x.catchType (.cls cT))).setFrames (.java { g with pc := x.handlerPc, stack := [.ref a] } :: T.frames.tail)) [] := by
    simp only [stepThrowing, searchFrame, vmDo]
    generalize hr9 : Sem.go _ e false [] ((T.setTop g).pushFrame (.throwing a)) = res
    obtain ⟨as, rfl, ha⟩ := Sem.eq_ok_of hr9 (a := Handler.found x.handlerPc) (s' := ((T.setTop g).pushFrame (.throwing a)).setVm (T.vm.noted g.method.cls x.catchType (.cls cT))) (acts' := []) (by simp [hfind _ _ _ _])
    exact ⟨rfl, ha⟩
  rw [stepThread_throwing (frames_entered X.here.top _), hstep.1]
  have hr' : (T.setVm (T.vm.noted g.method.cls x.catchType (.cls cT))).frames = .java g0 :: r := hr
  rw [State.setTop_of_frames _ hr']
  have e2 : ((((T.setTop g).pushFrame (.throwing a)).setVm (T.vm.noted g.method.cls x.catchType (.cls cT))).setFrames (.java { g with pc := x.handlerPc, stack := [.ref a] } :: T.frames.tail)) = (T.setVm (T.vm.noted g.method.cls x.catchType (.cls cT))).setFrames (.java { g with pc := x.handlerPc, stack := [.ref a] } :: r) := by
    have hcom : ∀ (u : State) (F : List Frame) (vm9 : Vm), (u.setFrames F).setVm vm9 = (u.setVm vm9).setFrames F := fun _ _ _ => rfl
    rw [hr, State.pushFrame, State.setTop_of_frames _ hr, hcom, hcom, State.setFrames_setFrames, State.setFrames_setFrames]
    rfl
  rw [e2]
  exact Steps.refl _
/-- caught by the first row of this method's table -/
theorem vx_catch {own name : String} {E : String} {ce : Cell} {q : Addr} (hown : s.vm.findClass own = some m.cls) (x : ExceptionTableEntry) (suf : List ExceptionTableEntry) (hsplit : c.exceptionTable.toList = x :: suf)
    (hx : covers x pc = true) (h0 : x.catchType ≠ 0)
    (hlink : (Cond.classLink own x.catchType name).before args s = true) (hcast : (Cond.castable E name).before args s = true) (hcell : H[q]? = some ce) (hv : ce.vm = .none) (hcl : s.vm.findClass E = some ce.cls)
    (kk : W p l e R s m args below meth c H locs cells slots Q (F0 m x.handlerPc ls [.ref q])) : vx_W p l e R s m args below meth c H locs cells slots Q (F0 m pc ls rest) q := by
  intro T hT X
  have hpl : e.platform.magicAccessors = ({} : Platform).magicAccessors := by rw [X.admits.platform]
  obtain ⟨c3, c4, hc3, hc4, hasg⟩ := Cond.castable_spec hcast
  cases Option.some.inj (hc3.symm.trans hcl)
  obtain ⟨c5, hc5, hcl5⟩ := Cond.classLink_spec hown hlink e.platform hpl
  cases Option.some.inj (hc4.symm.trans hc5)
  obtain ⟨vm', X', st⟩ := kt_caught X q (g := F0 m pc ls rest) rfl (by rw [hT]; exact hcell) (by rw [hv]; rfl) (by obtain ⟨k9, h9, -⟩ := Vm.findClass_spec hcl; exact ⟨k9, h9⟩) x suf hsplit hx h0 hcl5 hasg
  obtain ⟨t, a1, b1⟩ := kk (T.setVm vm') hT X'
  exact ⟨t, st.trans a1, b1⟩
end Rows
section Ends
variable {p : Program} {l : Launch} {e : Env} {R : Room} {s : State} {m : MethodId} {args : Array Value} {below : List Frame} {meth : Method} {c : Code} {H : Heap} {locs : List Loc} {cells slots : Nat} {Q : State → Prop}
variable {mc ms : Nat} {free : Addr → Prop} {A0 A1 : Nat → Prop} {H0 : Heap} {a : Array Value} {ls : Array Slot} {st0 rest : List Value}
variable {Qc : Array Value → State → Outcome → State → Prop} {XC : String → State → State → Prop}
/-- what a body that may throw owes at its end -/
def vx_MQ (below : List Frame) (Qc : Array Value → State → Outcome → State → Prop) (XC : String → State → State → Prop) (a : Array Value) (s : State) (mc ms : Nat) (free : Addr → Prop) : State → Prop := fun t =>
  ∃ o, t.status = .running ∧ Ended t below o ∧ vx_Q Qc XC mc ms free a s o t
theorem vx_ret {g : JFrame} {mc ms : Nat} (k : W p l e R s m args below meth c H locs cells slots (MQ below Qc args s mc ms free) g) : W p l e R s m args below meth c H locs cells slots (vx_MQ below Qc XC args s mc ms free) g := by
  intro T hT X
  obtain ⟨t, a1, o, b1, b2, b3, b4⟩ := k T hT X
  exact ⟨t, a1, o, b1, b2, Or.inl ⟨b3, b4⟩⟩
/-- not caught here: it goes on to the caller -/
theorem vx_widen {g : JFrame} {q : Addr} {k n : Nat} (h1 : cells ≤ k) (h2 : slots ≤ n) (kk : vx_W p l e R s m args below meth c H locs k n Q g q) : vx_W p l e R s m args below meth c H locs cells slots Q g q := fun T hT X => kk T hT (stand_widen X h1 h2)
theorem vx_out {pc : Nat} {E : String} {ce : Cell} {q : Addr} {mc ms : Nat} (hout : ∀ x ∈ c.exceptionTable.toList, covers x pc = false) (hlocks : meth.locks = false) (hcell : H[q]? = some ce) (hv : ce.vm = .none) (hcl : s.vm.findClass E = some ce.cls)
    (hx : ∀ t : State, t.heap = H → s.vm.Alike t.vm → XC E s t) (hf : ∀ z ∈ locs, free z.base) (hc : cells ≤ mc) (hs : slots ≤ ms) :
    vx_W p l e R s m args below meth c H locs cells slots (vx_MQ below Qc XC args s mc ms free) (F0 m pc ls rest) q := by
  intro T hT X
  obtain ⟨st1, hrun, hend, hW, hsm⟩ := X.leaveThrown q (g := F0 m pc ls rest) rfl rfl rfl hout hlocks
  have hcell9 : (T.setFrames (.throwing q :: below)).heap[q]? = some ce := by
    show T.heap[q]? = some ce
    rw [hT]; exact hcell
  exact ⟨_, st1, .threw q, hrun, hend, Or.inr ⟨q, rfl, E, ce, locs, hx _ hT hW.alike, hcell9, hv, hcl, hW, hsm.mono hc hs, hf⟩⟩
theorem vx_frame {U : State} {k n : Nat} (h : s.sameButNew ({ U with vm := s.vm } : State) locs k n) : s.heap.size ≤ U.heap.size ∧ ∀ q : Nat, q < s.heap.size → (∀ z ∈ locs, z.base ≠ q) → U.heap[q]? = s.heap[q]? := by
  obtain ⟨-, h2, -, -, -, h6⟩ := h
  refine ⟨h2, fun q hq hz => ?_⟩
  obtain ⟨c9, e1, e2, e3, e4⟩ := h6 q _ (Array.getElem?_eq_getElem hq)
  have hs : c9.slots = (s.heap[q]).slots := Array.ext_getElem? fun i => e4 i fun hm => hz _ hm rfl
  have h9 : c9 = s.heap[q] := by
    rw [hs] at e2
    exact e2
  have e5 : U.heap[q]? = some c9 := e1
  rw [e5, h9, Array.getElem?_eq_getElem hq]
/-- the words of a throw but the four that speak of the heap -/
def vx_no (w : Cond) : Bool := decide (w ≠ .isRef (.static Bundle.tN "UNASSIGNED_STACK" Bundle.steD)) && decide (w ≠ .isRef (.static Bundle.tN "SUPPRESSED_SENTINEL" Bundle.listD)) && decide (w ≠ .laysStatic Bundle.tN "UNASSIGNED_STACK" Bundle.steD) && decide (w ≠ .laysStatic Bundle.tN "SUPPRESSED_SENTINEL" Bundle.listD)
def vx_at0 (own : String) (ic : Nat) (X : String) (names : List String) : List Cond := (Bundle.ownAtoms0 own ic X names).filter vx_no
def vx_atS (own : String) (ic : Nat) (X : String) (names : List String) : List Cond := (Bundle.ownAtoms own ic X names).filter vx_no
/-- a word that the tables alone decide, or a good one -/
def vx_ot (w : Cond) : Bool := w.onTables || goodWord w
theorem vx_ot_at {args a' : Array Value} {s U : State} {w : Cond} (hW : s.WarmedH U.vm) (hvm : s.vm = U.vm) (hg : vx_ot w = true) (h : w.before args s = true) : w.before a' U = true := by
  simp only [vx_ot, Bool.or_eq_true] at hg
  rcases hg with hg | hg
  · exact va_tabs hg hvm h
  · exact word_at hW (good_of_word hg) h
/-- a list's words: the good ones out of the method's own list, the others by premises of their own -/
theorem vx_hat {args : Array Value} {s : State} {L B : List Cond} (h1 : ∀ w ∈ L.filter goodWord, w.before args s = true) (h2 : ∀ w ∈ L.filter (fun w => !goodWord w), w ∈ B) (h3 : ∀ w ∈ B, w.before args s = true) : ∀ w ∈ L, w.before args s = true := by
  intro w hw
  by_cases g : goodWord w = true
  · exact h1 w (List.mem_filter.mpr ⟨hw, g⟩)
  · refine h3 w (h2 w (List.mem_filter.mpr ⟨hw, ?_⟩))
    show (!goodWord w) = true
    cases hgw : goodWord w
    · rfl
    · exact absurd hgw g
theorem vx_c {args : Array Value} {s : State} {w : Cond} {B : List Cond} (h : w.before args s = true) (t : ∀ w ∈ B, w.before args s = true) : ∀ w' ∈ w :: B, w'.before args s = true := fun w' h' => (List.mem_cons.mp h').elim (fun e => by rw [e]; exact h) (t w')
theorem vx_n {args : Array Value} {s : State} : ∀ w ∈ ([] : List Cond), w.before args s = true := fun _ h => nomatch h
theorem vx_own {args : Array Value} {s : State} {L : List Cond} (h1 : ∀ w ∈ L.filter vx_no, w.before args s = true)
    (hU : (Cond.isRef (.static Bundle.tN "UNASSIGNED_STACK" Bundle.steD)).before args s = true) (hN : (Cond.isRef (.static Bundle.tN "SUPPRESSED_SENTINEL" Bundle.listD)).before args s = true)
    (lU : (Cond.laysStatic Bundle.tN "UNASSIGNED_STACK" Bundle.steD).before args s = true) (lN : (Cond.laysStatic Bundle.tN "SUPPRESSED_SENTINEL" Bundle.listD).before args s = true) : ∀ w ∈ L, w.before args s = true := by
  intro w hw
  by_cases e1 : w = .isRef (.static Bundle.tN "UNASSIGNED_STACK" Bundle.steD)
  · rw [e1]; exact hU
  · by_cases e2 : w = .isRef (.static Bundle.tN "SUPPRESSED_SENTINEL" Bundle.listD)
    · rw [e2]; exact hN
    · by_cases e3 : w = .laysStatic Bundle.tN "UNASSIGNED_STACK" Bundle.steD
      · rw [e3]; exact lU
      · by_cases e4 : w = .laysStatic Bundle.tN "SUPPRESSED_SENTINEL" Bundle.listD
        · rw [e4]; exact lN
        · exact h1 w (List.mem_filter.mpr ⟨hw, by unfold vx_no; rw [decide_eq_true e1, decide_eq_true e2, decide_eq_true e3, decide_eq_true e4]; rfl⟩)
/-- where a static field lies, its class's statics cell in H -/
def vx_L (C n d : String) (A : Nat → Prop) (U : State) (H : Heap) : Prop := ∃ (c : ClassId) (k : Class) (i : Nat) (f : Field) (a : Nat) (cell : Cell), U.vm.findClass C = some c ∧ U.fieldFound? C n d = some (c, k, i, f) ∧ f.isStatic = true ∧ k.statics = some a ∧ H[a]? = some cell ∧ cell.vm.isStatics = true ∧ cell.cls = c ∧ f.slot < cell.slots.size ∧ k.staticTypes[f.slot]? = some f.type ∧ ¬ A a
theorem vx_L.moved {C n d : String} {A : Nat → Prop} {u U : State} {H : Heap} (hvm : u.vm.Alike U.vm) (h : vx_L C n d A u H) : vx_L C n d A U H := by
  obtain ⟨c, k, i, f, a, cell, h1, h2, h3, h4, h5, h6, h7, h8, h9, h10⟩ := h
  obtain ⟨k', hi', he⟩ := State.fieldFound?_setVm hvm h2
  exact ⟨c, k', i, f, a, cell, by rw [hvm.findClass]; exact h1, hi', h3, by rw [he]; exact h4, h5, h6, h7, h8, by rw [he]; exact h9, h10⟩
theorem vx_L.kept {C n d : String} {A : Nat → Prop} {U : State} {H H1 : Heap} (h : vx_L C n d A U H) (hq : ∀ a : Nat, a < H.size → ¬ A a → H1[a]? = H[a]?) : vx_L C n d A U H1 := by
  obtain ⟨c, k, i, f, a, cell, h1, h2, h3, h4, h5, h6, h7, h8, h9, h10⟩ := h
  exact ⟨c, k, i, f, a, cell, h1, h2, h3, h4, by rw [hq a (Array.getElem?_eq_some_iff.mp h5).1 h10]; exact h5, h6, h7, h8, h9, h10⟩
theorem vx_L.narrow {C n d : String} {A B : Nat → Prop} {U : State} {H : Heap} (h : vx_L C n d A U H) (hAB : ∀ q, B q → A q) : vx_L C n d B U H := by
  obtain ⟨c, k, i, f, a, cell, h1, h2, h3, h4, h5, h6, h7, h8, h9, h10⟩ := h
  exact ⟨c, k, i, f, a, cell, h1, h2, h3, h4, h5, h6, h7, h8, h9, fun z => h10 (hAB _ z)⟩
theorem vx_L.word {C n d : String} {A : Nat → Prop} {s : State} {args : Array Value} (h : vx_L C n d A s s.heap) : (Cond.laysStatic C n d).before args s = true := by
  obtain ⟨c, k, i, f, a, cell, h1, h2, h3, h4, h5, h6, h7, h8, h9, -⟩ := h
  show (Cond.laysStatic C n d).holds args s none s [] = true
  exact Cond.laysStatic_of h1 h2 h3 h4 h5 h6 h7 h8 h9
/-- .. and what it holds: null or some reference -/
def vx_Zq (C n d : String) (A : Nat → Prop) (U : State) (H : Heap) : Prop := va_Zq C n d A U H ∧ vx_L C n d A U H
theorem vx_Zq.moved {C n d : String} {A : Nat → Prop} {u U : State} {H : Heap} (hvm : u.vm.Alike U.vm) (h : vx_Zq C n d A u H) : vx_Zq C n d A U H := ⟨va_Zq.moved hvm h.1, vx_L.moved hvm h.2⟩
theorem vx_Zq.kept {C n d : String} {A : Nat → Prop} {U : State} {H H1 : Heap} (h : vx_Zq C n d A U H) (hq : ∀ a : Nat, a < H.size → ¬ A a → H1[a]? = H[a]?) : vx_Zq C n d A U H1 := ⟨va_Zq.kept h.1 hq, vx_L.kept h.2 hq⟩
theorem vx_Zq.narrow {C n d : String} {A B : Nat → Prop} {U : State} {H : Heap} (h : vx_Zq C n d A U H) (hAB : ∀ q, B q → A q) : vx_Zq C n d B U H := ⟨va_Zq.narrow h.1 hAB, vx_L.narrow h.2 hAB⟩
theorem vx_Zqof {args : Array Value} {s : State} {C n d : String} {A : Nat → Prop} (hl : (Cond.laysStatic C n d).before args s = true) (hini : (Cond.initialized C).before args s = true) (h : (Cond.isRef (.static C n d)).before args s = true) (hA : ∀ a : Nat, a < s.heap.size → ¬ A a) : vx_Zq C n d A s s.heap := by
  refine ⟨va_Zqof hl hini h hA, ?_⟩
  obtain ⟨c, k, i, f, a, cell, h1, h2, h3, h4, h5, h6, h7, h8, h9⟩ := Cond.laysStatic_spec hl
  exact ⟨c, k, i, f, a, cell, h1, h2, h3, h4, h5, h6, h7, h8, h9, hA a (Array.getElem?_eq_some_iff.mp h5).1⟩
theorem vx_isRef {C n d : String} {v : Value} {A : Nat → Prop} {s : State} {args : Array Value} (h : va_Z C n d v A s s.heap) (hv : v.isRef = true) : (Cond.isRef (.static C n d)).before args s = true := by
  obtain ⟨cf, kf, fi, f, a, cell, h1, h2, h3, h4, h5, h6, h7, -⟩ := h
  have he : (Term.static C n d).eval args s none [] s = some v := by
    simp [Term.eval, State.fieldNamed?, h1, h2, h4, h5, h6, h7]
  simp only [Cond.before, Cond.holds, Cond.value, he]
  cases v <;> simp_all [Value.isRef]
theorem vx_isRefq {C n d : String} {A : Nat → Prop} {s : State} {args : Array Value} (h : va_Zq C n d A s s.heap) : (Cond.isRef (.static C n d)).before args s = true := by
  rcases h with h | ⟨t, h⟩
  · exact vx_isRef h rfl
  · exact vx_isRef h rfl
/-- the same frame, seen from here: as if the method were called anew in this heap -/
theorem vx_rebase {T : State} (X : Stand p l e R s m args below meth c T locs cells slots) {R' : Room} (hf : R'.frames ≤ R.frames) (hl : R'.locals ≤ R.locals) (hc : cells + R'.cells ≤ R.cells) (hs : slots + R'.slots ≤ R.slots) :
    Stand p l e R' ((T.setVm s.vm).setFrames (.invoking m args :: below)) m args below meth c T [] 0 0 := by
  have htop : (T.setVm s.vm).topJava?.isSome := X.here.top
  have hF : ((T.setVm s.vm).setFrames (.invoking m args :: below)).frames = .invoking m args :: below := State.frames_setFrames _ (State.cur_lt_of_top htop)
  obtain ⟨g₀, hg0⟩ := Option.isSome_iff_exists.mp htop
  obtain ⟨r, hr⟩ := State.topJava?_eq_some.mp hg0
  have hl9 : e.platform.stackLimits (T.setVm s.vm).me = e.platform.stackLimits s.me := X.limits
  have hb9 : (T.setVm s.vm).me.stackBytes = s.me.stackBytes := X.bytes
  refine ⟨X.admits, X.cas, X.clock, hF, ?_, X.hears, X.method, X.code, X.here, X.tail, X.warmed, ?_, ?_, ?_⟩
  · have h := X.room
    have hU : ((T.setVm s.vm).setFrames (.invoking m args :: below)).localsInUse = s.localsInUse := by
      rw [State.localsInUse_invoking hF (meth := meth) (c := c) X.method X.code, State.localsInUse_invoking X.frames X.method X.code]
    simp only [State.hasRoom, Bool.and_eq_true, decide_eq_true_eq] at h ⊢
    obtain ⟨⟨⟨⟨h1, h2, h3, h4, h5, h6⟩, h7⟩, h8⟩, h9⟩ := h
    rw [X.frames, List.length_cons] at h2 h3
    have q1 := X.heapSize
    have q2 := X.used
    simp only [hF, hU, List.length_cons, State.stackLimits_setFrames, State.stackBytes_setFrames, hl9, hb9]
    refine ⟨⟨⟨⟨by omega, by omega, by omega, by omega, by omega, h6⟩, ?_⟩, ?_⟩, X.book⟩
    · show T.heap.size + R'.cells ≤ e.platform.maxCells
      omega
    · show T.slotsUsed + R'.slots ≤ e.platform.maxSlots
      omega
  · rw [State.stackLimits_setFrames]; rfl
  · rw [State.stackBytes_setFrames]; rfl
  · refine ⟨?_, Nat.le_refl _, Nat.le_refl _, ?_, ?_, fun a c9 h9 => ⟨c9, h9, rfl, rfl, fun _ _ => rfl⟩⟩
    · obtain ⟨t, ht, -⟩ := State.frames_cons hr
      show T.setVm s.vm = { ((T.setVm s.vm).setFrames (.invoking m args :: below)).setFrames (T.setVm s.vm).frames with heap := T.heap, slotsUsed := T.slotsUsed }
      rw [State.setFrames_setFrames, State.setFrames_self ht]
      rfl
    · show T.slotsUsed = T.slotsUsed + ((T.heap.toList.drop T.heap.size).map (·.slots.size)).sum
      rw [List.drop_eq_nil_of_le (Nat.le_of_eq Array.length_toList)]
      rfl
    · show ((T.heap.toList.drop T.heap.size).map (·.slots.size)).sum ≤ 0
      rw [List.drop_eq_nil_of_le (Nat.le_of_eq Array.length_toList)]
      exact Nat.le_refl _
/-- 'throw new E()': new; dup; invokespecial; athrow -/
theorem vx_throw0 {cc : ByteArray} {pc : Nat} (hexec : p.tables.exec = Jvm.exec) (hb : c.code = cc) (hl : l.stackTraces = false) {own cls : String} {names : List String} {ik ic mc ms : Nat} {A : Nat → Prop}
    (hown : s.vm.findClass own = some m.cls) (hcls : Bundle.fit cls = true) (hnames : ∀ n ∈ names, Bundle.fit n = true)
    (hk : (Cond.classLink own ik cls).before args s = true) (hini : (Cond.initialized cls).before args s = true) (hat : ∀ w ∈ vx_at0 own ic cls names, w.before args s = true)
    (hgood : ∀ w ∈ Cond.classLink own ik cls :: Cond.initialized cls :: vx_at0 own ic cls names, vx_ot w = true)
    (hU : vx_Zq Bundle.tN "UNASSIGNED_STACK" Bundle.steD A s s.heap) (hN : vx_Zq Bundle.tN "SUPPRESSED_SENTINEL" Bundle.listD A s s.heap) (hS : va_S A s.heap H locs) (hsize : ls.size = c.maxLocals)
    (d0 : decode cc pc = .ok (.new ik, 3)) (d3 : decode cc (pc + 3) = .ok (.dup, 1)) (d4 : decode cc (pc + 4) = .ok (.invokespecial ic, 3)) (d7 : decode cc (pc + 7) = .ok (.athrow, 1))
    (hout : ∀ x ∈ c.exceptionTable.toList, covers x (pc + 7) = false)
    (hRframes : names.length + 3 < R.frames) (hRlocals : (rest.map fun v => v.category).sum + (13 * (names.length + 1) + 42) ≤ R.locals) (hRcells : cells + 1 ≤ R.cells) (hRslots : slots + 6 ≤ R.slots) (hlocks : meth.locks = false)
    (hx : ∀ t : State, s.vm.Alike t.vm → H.size ≤ t.heap.size → (∀ q : Nat, q < H.size → t.heap[q]? = H[q]?) → XC cls s t)
    (hf : ∀ z ∈ locs, free z.base) (hc : cells + 1 ≤ mc) (hs : slots + 6 ≤ ms) :
    W p l e R s m args below meth c H locs cells slots (vx_MQ below Qc XC args s mc ms free) (F0 m pc ls rest) := by
  intro T hT X
  have htr : e.platform.stackTraces = false := (show e.platform.stackTraces = l.stackTraces by rw [X.admits.platform]).trans hl
  have Y := vx_rebase X (R' := { frames := R.frames, locals := R.locals, cells := 1, slots := 6 }) (Nat.le_refl _) (Nat.le_refl _) hRcells hRslots
  obtain ⟨s', hA⟩ : ∃ z, z = (T.setVm s.vm).setFrames (.invoking m args :: below) := ⟨_, rfl⟩
  rw [← hA] at Y
  have hvm : s'.vm = s.vm := by rw [hA]; rfl
  have hhp : s'.heap = H := by rw [hA]; exact hT
  have hW0 : s.WarmedH s'.vm := by rw [hvm]; exact State.WarmedH.refl s
  have hat' : ∀ w ∈ vx_at0 own ic cls names, w.before args s' = true := fun w hw => vx_ot_at hW0 hvm.symm (hgood w (List.mem_cons_of_mem _ (List.mem_cons_of_mem _ hw))) (hat w hw)
  have hk' : (Cond.classLink own ik cls).before args s' = true := vx_ot_at hW0 hvm.symm (hgood _ List.mem_cons_self) hk
  have hini' : (Cond.initialized cls).before args s' = true := vx_ot_at hW0 hvm.symm (hgood _ (List.mem_cons_of_mem _ List.mem_cons_self)) hini
  have hU' : vx_Zq Bundle.tN "UNASSIGNED_STACK" Bundle.steD A s' s'.heap := by rw [hhp]; exact vx_Zq.moved hW0.alike (hU.kept hS.2.1)
  have hN' : vx_Zq Bundle.tN "SUPPRESSED_SENTINEL" Bundle.listD A s' s'.heap := by rw [hhp]; exact vx_Zq.moved hW0.alike (hN.kept hS.2.1)
  have h : ∀ w ∈ Bundle.ownAtoms0 own ic cls names, w.before args s' = true := vx_own hat' (vx_isRefq hU'.1) (vx_isRefq hN'.1) hU'.2.word hN'.2.word
  have hown' : s'.vm.findClass own = some m.cls := by rw [hvm]; exact hown
  have hins : (Cond.instantiable cls 6).before args s' = true := h _ (by simp [Bundle.ownAtoms0])
  obtain ⟨vm₁, cX, kX, hfX, hkX, -, -, X₁, st1⟩ := Y.newCold hexec (own := own) (C := cls) (index := ik) (n := 6) hown' hk' hins hini'
    (g := F0 m pc ls rest) rfl (by rw [hb]; exact d0) (Nat.le_refl _) (Nat.le_refl _)
  generalize hT1 : (T.setVm vm₁).pushCell { cls := cX, slots := kX.instanceTypes.map defaultValue, vm := .none } = T1 at X₁ st1
  have hcat : (Value.ref T.heap.size).category = 1 := rfl
  have hcellA : T1.heap[T.heap.size]? = some (freshCell cX kX) := by rw [← hT1]; exact State.heap_pushCell_size _ _
  have d3' : decode c.code (pc + 3) = .ok (.dup, 1) := by rw [hb]; exact d3
  obtain ⟨U, hsteps, hrun, hend, hW, hsame, ce, hce, hO⟩ := X₁.ctorThrow0 hexec htr (own := own) (cls := cls) (names := names) (ic := ic) hown' hcls hnames h (fun x hx => nomatch hx) hfX hkX hcellA (by rw [hhp, hT]; exact Nat.le_refl _)
    (g := { method := m, pc := pc + 4, locals := ls, stack := .ref T.heap.size :: .ref T.heap.size :: rest, locked := none }) rfl hsize rfl rfl (rest := rest) rfl
    (by rw [hb]; exact d4) (by rw [hb]; exact d7) hout hRframes (by simp only [List.map_cons, List.sum_cons, hcat]; omega) hlocks
  obtain ⟨f1, f2⟩ := vx_frame hsame
  rw [hhp] at f1 f2
  have hWs : s.WarmedH U.vm := State.WarmedH.trans hW0 hW
  have hcl : s.vm.findClass cls = some ce.cls := by
    have h9 := hO.cls
    rw [hvm] at h9
    exact h9
  have hall : s.sameButNew ({ U with vm := s.vm } : State) locs mc ms := by
    subst hA
    obtain ⟨e1, e2⟩ := hsame
    rw [State.setFrames_setFrames] at e1
    have h2 : (T.setVm s.vm).sameButNew ({ U with vm := s.vm } : State) [] (0 + 1) (0 + 6) := ⟨e1, e2⟩
    have h3 := X.same.trans h2
    rw [List.append_nil] at h3
    exact h3.mono hc hs
  refine ⟨U, ?_, .threw T.heap.size, hrun, hend, Or.inr ⟨T.heap.size, rfl, cls, ce, locs, hx U hWs.alike f1 (fun q hq => f2 q hq (fun z hz => nomatch hz)), hce, hO.vm, hcl, hWs, hall, hf⟩⟩
  refine st1 _ ?_
  show Steps p.tables e below (T1.setTop { method := m, pc := pc + 3, locals := ls, stack := .ref T.heap.size :: rest, locked := none }) _
  jvm_step X₁.here [X₁.here.top, hexec, d3', Value.category]
  exact hsteps
/-- 'throw new E("text")': new; dup; ldc; invokespecial; athrow -/
theorem vx_throwS {cc : ByteArray} {pc : Nat} (hexec : p.tables.exec = Jvm.exec) (hb : c.code = cc) (hl : l.stackTraces = false) {own cls text : String} {names : List String} {ik is ic mc ms sa : Nat} {A : Nat → Prop}
    (hown : s.vm.findClass own = some m.cls) (hcls : Bundle.fit cls = true) (hnames : ∀ n ∈ names, Bundle.fit n = true)
    (hk : (Cond.classLink own ik cls).before args s = true) (hini : (Cond.initialized cls).before args s = true) (hstr : vk_R own is text sa s) (hat : ∀ w ∈ vx_atS own ic cls names, w.before args s = true)
    (hgood : ∀ w ∈ Cond.classLink own ik cls :: Cond.initialized cls :: vx_atS own ic cls names, vx_ot w = true)
    (hU : vx_Zq Bundle.tN "UNASSIGNED_STACK" Bundle.steD A s s.heap) (hN : vx_Zq Bundle.tN "SUPPRESSED_SENTINEL" Bundle.listD A s s.heap) (hS : va_S A s.heap H locs) (hsize : ls.size = c.maxLocals)
    (d0 : decode cc pc = .ok (.new ik, 3)) (d3 : decode cc (pc + 3) = .ok (.dup, 1)) (d4 : decode cc (pc + 4) = .ok (.ldc is, 2)) (d6 : decode cc (pc + 6) = .ok (.invokespecial ic, 3)) (d9 : decode cc (pc + 9) = .ok (.athrow, 1))
    (hout : ∀ x ∈ c.exceptionTable.toList, covers x (pc + 9) = false)
    (hRframes : names.length + 3 < R.frames) (hRlocals : (rest.map fun v => v.category).sum + (13 * (names.length + 1) + 43) ≤ R.locals) (hRcells : cells + 1 ≤ R.cells) (hRslots : slots + 6 ≤ R.slots) (hlocks : meth.locks = false)
    (hx : ∀ t : State, s.vm.Alike t.vm → H.size ≤ t.heap.size → (∀ q : Nat, q < H.size → t.heap[q]? = H[q]?) → XC cls s t)
    (hf : ∀ z ∈ locs, free z.base) (hc : cells + 1 ≤ mc) (hs : slots + 6 ≤ ms) :
    W p l e R s m args below meth c H locs cells slots (vx_MQ below Qc XC args s mc ms free) (F0 m pc ls rest) := by
  intro T hT X
  have htr : e.platform.stackTraces = false := (show e.platform.stackTraces = l.stackTraces by rw [X.admits.platform]).trans hl
  have Y := vx_rebase X (R' := { frames := R.frames, locals := R.locals, cells := 1, slots := 6 }) (Nat.le_refl _) (Nat.le_refl _) hRcells hRslots
  obtain ⟨s', hA⟩ : ∃ z, z = (T.setVm s.vm).setFrames (.invoking m args :: below) := ⟨_, rfl⟩
  rw [← hA] at Y
  have hvm : s'.vm = s.vm := by rw [hA]; rfl
  have hhp : s'.heap = H := by rw [hA]; exact hT
  have hW0 : s.WarmedH s'.vm := by rw [hvm]; exact State.WarmedH.refl s
  have hat' : ∀ w ∈ vx_atS own ic cls names, w.before args s' = true := fun w hw => vx_ot_at hW0 hvm.symm (hgood w (List.mem_cons_of_mem _ (List.mem_cons_of_mem _ hw))) (hat w hw)
  have hk' : (Cond.classLink own ik cls).before args s' = true := vx_ot_at hW0 hvm.symm (hgood _ List.mem_cons_self) hk
  have hini' : (Cond.initialized cls).before args s' = true := vx_ot_at hW0 hvm.symm (hgood _ (List.mem_cons_of_mem _ List.mem_cons_self)) hini
  have hU' : vx_Zq Bundle.tN "UNASSIGNED_STACK" Bundle.steD A s' s'.heap := by rw [hhp]; exact vx_Zq.moved hW0.alike (hU.kept hS.2.1)
  have hN' : vx_Zq Bundle.tN "SUPPRESSED_SENTINEL" Bundle.listD A s' s'.heap := by rw [hhp]; exact vx_Zq.moved hW0.alike (hN.kept hS.2.1)
  have h : ∀ w ∈ Bundle.ownAtoms own ic cls names, w.before args s' = true := vx_own hat' (vx_isRefq hU'.1) (vx_isRefq hN'.1) hU'.2.word hN'.2.word
  have hown' : s'.vm.findClass own = some m.cls := by rw [hvm]; exact hown
  have hins : (Cond.instantiable cls 6).before args s' = true := h _ (by simp [Bundle.ownAtoms])
  obtain ⟨vm₁, cX, kX, hfX, hkX, -, -, X₁, st1⟩ := Y.newCold hexec (own := own) (C := cls) (index := ik) (n := 6) hown' hk' hins hini'
    (g := F0 m pc ls rest) rfl (by rw [hb]; exact d0) (Nat.le_refl _) (Nat.le_refl _)
  generalize hT1 : (T.setVm vm₁).pushCell { cls := cX, slots := kX.instanceTypes.map defaultValue, vm := .none } = T1 at X₁ st1
  have hcat : (Value.ref T.heap.size).category = 1 := rfl
  have hcellA : T1.heap[T.heap.size]? = some (freshCell cX kX) := by rw [← hT1]; exact State.heap_pushCell_size _ _
  have d3' : decode c.code (pc + 3) = .ok (.dup, 1) := by rw [hb]; exact d3
  have d4' : decode c.code (pc + 4) = .ok (.ldc is, 2) := by rw [hb]; exact d4
  have hstr' : vk_R own is text sa s' := vk_R.warm hW0 hstr
  obtain ⟨U, hsteps, hrun, hend, hW, hsame, ce, hce, hO⟩ := X₁.ctorThrowS hexec htr (own := own) (cls := cls) (names := names) (ic := ic) hown' hcls hnames h (fun x hx => nomatch hx) hfX hkX hcellA (by rw [hhp, hT]; exact Nat.le_refl _) (msg := .ref sa) rfl
    (g := { method := m, pc := pc + 6, locals := ls, stack := .ref sa :: .ref T.heap.size :: .ref T.heap.size :: rest, locked := none }) rfl hsize rfl rfl (rest := rest) rfl
    (by rw [hb]; exact d6) (by rw [hb]; exact d9) hout hRframes (by simp only [List.map_cons, List.sum_cons, hcat]; omega) hlocks
  obtain ⟨f1, f2⟩ := vx_frame hsame
  rw [hhp] at f1 f2
  have hWs : s.WarmedH U.vm := State.WarmedH.trans hW0 hW
  have hcl : s.vm.findClass cls = some ce.cls := by
    have h9 := hO.cls
    rw [hvm] at h9
    exact h9
  have hall : s.sameButNew ({ U with vm := s.vm } : State) locs mc ms := by
    subst hA
    obtain ⟨e1, e2⟩ := hsame
    rw [State.setFrames_setFrames] at e1
    have h2 : (T.setVm s.vm).sameButNew ({ U with vm := s.vm } : State) [] (0 + 1) (0 + 6) := ⟨e1, e2⟩
    have h3 := X.same.trans h2
    rw [List.append_nil] at h3
    exact h3.mono hc hs
  refine ⟨U, ?_, .threw T.heap.size, hrun, hend, Or.inr ⟨T.heap.size, rfl, cls, ce, locs, hx U hWs.alike f1 (fun q hq => f2 q hq (fun z hz => nomatch hz)), hce, hO.vm, hcl, hWs, hall, hf⟩⟩
  refine st1 _ ?_
  show Steps p.tables e below (T1.setTop { method := m, pc := pc + 3, locals := ls, stack := .ref T.heap.size :: rest, locked := none }) _
  jvm_step X₁.here [X₁.here.top, hexec, d3', Value.category]
  exact X₁.ldcString hexec (own := own) (text := text) (index := is) (a := sa) hown' hstr'.1 hstr'.2
    (g := { method := m, pc := pc + 4, locals := ls, stack := .ref T.heap.size :: .ref T.heap.size :: rest, locked := none }) rfl d4' _ hsteps
/-- 'throw new E("text")', the text by a wide index -/
theorem vx_throwSW {cc : ByteArray} {pc : Nat} (hexec : p.tables.exec = Jvm.exec) (hb : c.code = cc) (hl : l.stackTraces = false) {own cls text : String} {names : List String} {ik is ic mc ms sa : Nat} {A : Nat → Prop}
    (hown : s.vm.findClass own = some m.cls) (hcls : Bundle.fit cls = true) (hnames : ∀ n ∈ names, Bundle.fit n = true)
    (hk : (Cond.classLink own ik cls).before args s = true) (hini : (Cond.initialized cls).before args s = true) (hstr : vk_R own is text sa s) (hat : ∀ w ∈ vx_atS own ic cls names, w.before args s = true)
    (hgood : ∀ w ∈ Cond.classLink own ik cls :: Cond.initialized cls :: vx_atS own ic cls names, vx_ot w = true)
    (hU : vx_Zq Bundle.tN "UNASSIGNED_STACK" Bundle.steD A s s.heap) (hN : vx_Zq Bundle.tN "SUPPRESSED_SENTINEL" Bundle.listD A s s.heap) (hS : va_S A s.heap H locs) (hsize : ls.size = c.maxLocals)
    (d0 : decode cc pc = .ok (.new ik, 3)) (d3 : decode cc (pc + 3) = .ok (.dup, 1)) (d4 : decode cc (pc + 4) = .ok (.ldc_w is, 3)) (d7 : decode cc (pc + 7) = .ok (.invokespecial ic, 3)) (d10 : decode cc (pc + 10) = .ok (.athrow, 1))
    (hout : ∀ x ∈ c.exceptionTable.toList, covers x (pc + 10) = false)
    (hRframes : names.length + 3 < R.frames) (hRlocals : (rest.map fun v => v.category).sum + (13 * (names.length + 1) + 43) ≤ R.locals) (hRcells : cells + 1 ≤ R.cells) (hRslots : slots + 6 ≤ R.slots) (hlocks : meth.locks = false)
    (hx : ∀ t : State, s.vm.Alike t.vm → H.size ≤ t.heap.size → (∀ q : Nat, q < H.size → t.heap[q]? = H[q]?) → XC cls s t)
    (hf : ∀ z ∈ locs, free z.base) (hc : cells + 1 ≤ mc) (hs : slots + 6 ≤ ms) :
    W p l e R s m args below meth c H locs cells slots (vx_MQ below Qc XC args s mc ms free) (F0 m pc ls rest) := by
  intro T hT X
  have htr : e.platform.stackTraces = false := (show e.platform.stackTraces = l.stackTraces by rw [X.admits.platform]).trans hl
  have Y := vx_rebase X (R' := { frames := R.frames, locals := R.locals, cells := 1, slots := 6 }) (Nat.le_refl _) (Nat.le_refl _) hRcells hRslots
  obtain ⟨s', hA⟩ : ∃ z, z = (T.setVm s.vm).setFrames (.invoking m args :: below) := ⟨_, rfl⟩
  rw [← hA] at Y
  have hvm : s'.vm = s.vm := by rw [hA]; rfl
  have hhp : s'.heap = H := by rw [hA]; exact hT
  have hW0 : s.WarmedH s'.vm := by rw [hvm]; exact State.WarmedH.refl s
  have hat' : ∀ w ∈ vx_atS own ic cls names, w.before args s' = true := fun w hw => vx_ot_at hW0 hvm.symm (hgood w (List.mem_cons_of_mem _ (List.mem_cons_of_mem _ hw))) (hat w hw)
  have hk' : (Cond.classLink own ik cls).before args s' = true := vx_ot_at hW0 hvm.symm (hgood _ List.mem_cons_self) hk
  have hini' : (Cond.initialized cls).before args s' = true := vx_ot_at hW0 hvm.symm (hgood _ (List.mem_cons_of_mem _ List.mem_cons_self)) hini
  have hU' : vx_Zq Bundle.tN "UNASSIGNED_STACK" Bundle.steD A s' s'.heap := by rw [hhp]; exact vx_Zq.moved hW0.alike (hU.kept hS.2.1)
  have hN' : vx_Zq Bundle.tN "SUPPRESSED_SENTINEL" Bundle.listD A s' s'.heap := by rw [hhp]; exact vx_Zq.moved hW0.alike (hN.kept hS.2.1)
  have h : ∀ w ∈ Bundle.ownAtoms own ic cls names, w.before args s' = true := vx_own hat' (vx_isRefq hU'.1) (vx_isRefq hN'.1) hU'.2.word hN'.2.word
  have hown' : s'.vm.findClass own = some m.cls := by rw [hvm]; exact hown
  have hins : (Cond.instantiable cls 6).before args s' = true := h _ (by simp [Bundle.ownAtoms])
  obtain ⟨vm₁, cX, kX, hfX, hkX, -, -, X₁, st1⟩ := Y.newCold hexec (own := own) (C := cls) (index := ik) (n := 6) hown' hk' hins hini'
    (g := F0 m pc ls rest) rfl (by rw [hb]; exact d0) (Nat.le_refl _) (Nat.le_refl _)
  generalize hT1 : (T.setVm vm₁).pushCell { cls := cX, slots := kX.instanceTypes.map defaultValue, vm := .none } = T1 at X₁ st1
  have hcat : (Value.ref T.heap.size).category = 1 := rfl
  have hcellA : T1.heap[T.heap.size]? = some (freshCell cX kX) := by rw [← hT1]; exact State.heap_pushCell_size _ _
  have d3' : decode c.code (pc + 3) = .ok (.dup, 1) := by rw [hb]; exact d3
  have d4' : decode c.code (pc + 4) = .ok (.ldc_w is, 3) := by rw [hb]; exact d4
  have hstr' : vk_R own is text sa s' := vk_R.warm hW0 hstr
  obtain ⟨U, hsteps, hrun, hend, hW, hsame, ce, hce, hO⟩ := X₁.ctorThrowS hexec htr (own := own) (cls := cls) (names := names) (ic := ic) hown' hcls hnames h (fun x hx => nomatch hx) hfX hkX hcellA (by rw [hhp, hT]; exact Nat.le_refl _) (msg := .ref sa) rfl
    (g := { method := m, pc := pc + 7, locals := ls, stack := .ref sa :: .ref T.heap.size :: .ref T.heap.size :: rest, locked := none }) rfl hsize rfl rfl (rest := rest) rfl
    (by rw [hb]; exact d7) (by rw [hb]; exact d10) hout hRframes (by simp only [List.map_cons, List.sum_cons, hcat]; omega) hlocks
  obtain ⟨f1, f2⟩ := vx_frame hsame
  rw [hhp] at f1 f2
  have hWs : s.WarmedH U.vm := State.WarmedH.trans hW0 hW
  have hcl : s.vm.findClass cls = some ce.cls := by
    have h9 := hO.cls
    rw [hvm] at h9
    exact h9
  have hall : s.sameButNew ({ U with vm := s.vm } : State) locs mc ms := by
    subst hA
    obtain ⟨e1, e2⟩ := hsame
    rw [State.setFrames_setFrames] at e1
    have h2 : (T.setVm s.vm).sameButNew ({ U with vm := s.vm } : State) [] (0 + 1) (0 + 6) := ⟨e1, e2⟩
    have h3 := X.same.trans h2
    rw [List.append_nil] at h3
    exact h3.mono hc hs
  refine ⟨U, ?_, .threw T.heap.size, hrun, hend, Or.inr ⟨T.heap.size, rfl, cls, ce, locs, hx U hWs.alike f1 (fun q hq => f2 q hq (fun z hz => nomatch hz)), hce, hO.vm, hcl, hWs, hall, hf⟩⟩
  refine st1 _ ?_
  show Steps p.tables e below (T1.setTop { method := m, pc := pc + 3, locals := ls, stack := .ref T.heap.size :: rest, locked := none }) _
  jvm_step X₁.here [X₁.here.top, hexec, d3', Value.category]
  exact X₁.ldcStringW hexec (own := own) (text := text) (index := is) (a := sa) hown' hstr'.1 hstr'.2
    (g := { method := m, pc := pc + 4, locals := ls, stack := .ref T.heap.size :: .ref T.heap.size :: rest, locked := none }) rfl d4' _ hsteps
end Ends
section Bodies
variable {l : Launch}
theorem vx_ofW {y : MethodName} {ws ws' : List Cond} {rm : Room} {Pc : Array Value → State → Prop} {Qc : Array Value → State → Outcome → State → Prop} {XC : String → State → State → Prop} {mc ms : Nat} {free : Addr → Prop} {cc : ByteArray} {maxL : Nat} {ret : Option FieldType}
    (hy : plainName y.cls = true) (hw : ws = Cond.code y cc maxL ret :: ws')
    (body : ∀ p e s m args below meth c s₁, BodyLoose p l y (headSpec ws rm) cc maxL ret e s m args below meth c s₁ → c.maxLocals = maxL → (∀ x ∈ c.exceptionTable.toList, False) → Pc args s →
      W p l e (headSpec ws rm).room s m args below meth c s.heap [] 0 0 (vx_MQ below Qc XC args s mc ms free) (entryFrame m args maxL)) : vx_Met l y ws rm Pc Qc XC mc ms free := by
  refine MetFree.of_bodyS (code := cc) (maxLocals := maxL) (ret := ret) hy ?_ ?_
  · intro args s m h hn
    obtain ⟨meth, c, h1, h2, h3, h4, h5, h6, -, -⟩ := Cond.code_spec hn (atoms_spec (ws := ws) h _ (by rw [hw]; exact List.mem_cons_self))
    exact ⟨meth, c, h1, h2, h3, h4, h5, h6⟩
  · intro p e s m args below meth c s₁ B hml hP _
    have hh0 : s₁.heap = s.heap := by rw [B.state]; rfl
    have ht : ∀ x ∈ c.exceptionTable.toList, False := by
      obtain ⟨meth9, c9, h1, h2, -, -, -, -, h7, -⟩ := Cond.code_spec B.named (atoms_spec (ws := ws) B.pre _ (by rw [hw]; exact List.mem_cons_self))
      cases Option.some.inj (h1.symm.trans B.method)
      cases Option.some.inj (h2.symm.trans (Stand.of_body B).code)
      intro x hx
      rw [Array.isEmpty_iff.mp h7] at hx
      cases hx
    obtain ⟨t, a1, o, b1, b2, b3⟩ := body p e s m args below meth c s₁ B hml ht hP s₁ hh0 (Stand.of_body B)
    exact ⟨t, o, a1, b1, b2, b3⟩
/-- the table of a body with handlers -/
theorem vx_table {p : Program} {x y : MethodName} {S : Spec} {cc bytes : ByteArray} {maxL maxL' : Nat} {ret ret' : Option FieldType} {e : Env} {s s₁ : State} {m : MethodId} {args : Array Value} {below : List Frame} {meth : Method} {c : Code} {hh : List (Nat × Nat × Nat × Nat)}
    (B : BodyLoose p l y S cc maxL ret e s m args below meth c s₁) (h : (Cond.codeWith y bytes maxL' ret' hh).before args s = true) : c.exceptionTable.toList = tableOf hh := by
  obtain ⟨m9, meth9, c9, hn9, h1, h2, -, -, h6, -⟩ := Cond.codeWith_spec h
  cases Option.some.inj (hn9.symm.trans B.named)
  cases Option.some.inj (h1.symm.trans B.method)
  cases Option.some.inj (h2.symm.trans (Stand.of_body B).code)
  rw [← h6, table_eq]
end Bodies
end VXA
/-! ===== END ===== -/
/-! ===== BEGIN a static call of a method with an exception table ===== -/
section VXS
variable {p : Program} {l : Launch} {e : Env} {R : Room} {s : State} {m : MethodId} {args : Array Value} {below : List Frame} {meth : Method} {c : Code} {T : State} {H : Heap} {locs : List Loc} {cells slots : Nat}
abbrev vx_CSW (R : Room) (s : State) (args : Array Value) (own : String) (index : Nat) (y : MethodName) (bytes : ByteArray) (maxL : Nat) (ret : Option FieldType) (hh : List (Nat × Nat × Nat × Nat)) (ws : List Cond) (rm : Room) (mc ms n : Nat) : Prop :=
  (rm.cells = mc ∧ rm.slots = ms ∧ rm.frames + 1 ≤ R.frames ∧ 8 + (maxL + 11) + rm.locals ≤ R.locals ∧ (∀ w ∈ ws, ∀ (a' : Array Value) (U : State), s.WarmedH U.vm → w.before a' U = true) ∧ Cond.codeWith y bytes maxL ret hh ∈ ws) ∧
  (Cond.codeWith y bytes maxL ret hh).before args s = true ∧ (Cond.initialized y.cls).before args s = true ∧ (y.cls ≠ "java/lang/invoke/MethodHandle" ∧ y.cls ≠ "java/lang/invoke/VarHandle") ∧
  (∀ sig, parseMethodDescriptor y.desc = some sig → n = sig.parameters.length) ∧ (Cond.methodLink own index y).before args s = true ∧ (Cond.static y).before args s = true
theorem vx_cwSW {own : String} {index maxL mc ms : Nat} {y : MethodName} {bytes : ByteArray} {ret : Option FieldType} {hh : List (Nat × Nat × Nat × Nat)} {Ts ws ws' : List Cond} {rm : Room} (n : Nat) (ht : ∀ w ∈ Ts, w.before args s = true) (hT : GoodIn Ts (va_wsS own index y ws)) (hw : ws = Cond.codeWith y bytes maxL ret hh :: ws') (hrc : rm.cells = mc) (hrs : rm.slots = ms)
    (hd : y.cls ≠ "java/lang/invoke/MethodHandle" ∧ y.cls ≠ "java/lang/invoke/VarHandle" ∧ (parseMethodDescriptor y.desc).map (fun d => d.parameters.length) = some n) (hR : rm.frames + 1 ≤ R.frames ∧ 8 + (maxL + 11) + rm.locals ≤ R.locals) :
    vx_CSW R s args own index y bytes maxL ret hh ws rm mc ms n := by
  have ok : ∀ w ∈ va_wsS own index y ws, w.before args s = true := fun w h => ht w (hT w h).1
  have hG : GoodIn Ts ws := fun w h => hT w (by unfold va_wsS; exact List.mem_append_right _ h)
  have hc : Cond.codeWith y bytes maxL ret hh ∈ ws := by rw [hw]; exact List.mem_cons_self
  refine ⟨⟨hrc, hrs, hR.1, hR.2, pay_in ht hG, hc⟩, ht _ (hG _ hc).1, ok _ (by simp [va_wsS]), ⟨hd.1, hd.2.1⟩, fun sig h => ?_, ok _ (by simp [va_wsS]), ok _ (by simp [va_wsS])⟩
  have h2 := hd.2.2
  rw [h] at h2
  exact (Option.some.inj h2).symm
theorem vx_callSW (X : Stand p l e R s m args below meth c T locs cells slots) (hexec : p.tables.exec = Jvm.exec) {own : String} {index : Nat} {y : MethodName} {bytes : ByteArray} {maxL : Nat} {ret : Option FieldType} {hh : List (Nat × Nat × Nat × Nat)}
    (hown : s.vm.findClass own = some m.cls) (hlink : (Cond.methodLink own index y).before args s = true) (hstat : (Cond.static y).before args s = true) (hinit : (Cond.initialized y.cls).before args s = true)
    (hcode : (Cond.codeWith y bytes maxL ret hh).before args s = true) (hy : y.cls ≠ "java/lang/invoke/MethodHandle" ∧ y.cls ≠ "java/lang/invoke/VarHandle")
    {W9 : Nat} {Pre : Pt → Array Value → Prop} {Post : Pt → Array Value → Option Value → Pt → Prop} (hK : Back l R p e below s args y 3 W9 Pre Post)
    {g : JFrame} (hg : g.method = m) (hsize : g.locals.size = c.maxLocals) {argsL rest : List Value} (hlen : ∀ sig, parseMethodDescriptor y.desc = some sig → argsL.length = sig.parameters.length)
    (hstack : g.stack = argsL.reverse ++ rest) (hW : 2 * g.monitorRoom + (rest.map fun v => v.category).sum ≤ W9) (hdg : decode c.code g.pc = .ok (.invokestatic index, 3))
    (hpre : ∀ vm₁, s.WarmedH vm₁ → Pre ⟨T.setVm vm₁, locs, cells, slots⟩ argsL.toArray) :
    ∃ (v : Option Value) (vm₁ : Vm) (B : Pt), s.WarmedH vm₁ ∧ Stand p l e R s m args below meth c B.U B.locs B.cells B.slots ∧ Post ⟨T.setVm vm₁, locs, cells, slots⟩ argsL.toArray v B ∧
      ∀ target, Steps p.tables e below (B.U.setTop { g with pc := g.pc + 3, stack := v.toList ++ rest }) target → Steps p.tables e below (T.setTop g) target := by
  obtain ⟨mk, methM, cM, hnamed, hmethM, -, -, -, -, -, -, hsigM⟩ := Cond.codeWith_spec hcode
  have hstatic : methM.isStatic = true := Cond.static_spec hnamed hmethM hstat
  obtain ⟨kP, hkP, -⟩ := className_of_methodNamed hnamed
  have hinitP : kP.init = .initialized := Cond.initialized_spec (findClass_of_methodNamed hnamed) hkP hinit
  obtain ⟨vm₁, X₁, hstep₁⟩ := X.invokestatic hexec hown hlink hnamed hmethM hstatic hkP hinitP hy (g := g) hg (argsL := argsL) (rest := rest) (hlen _ hsigM) hstack hdg
  obtain ⟨v, B, X', hpost, hsteps⟩ := hK m meth c ⟨T.setVm vm₁, locs, cells, slots⟩ { g with stack := rest } (.invokestatic index) mk argsL.toArray X₁ hg hsize hdg hW (X₁.named hnamed) (hpre vm₁ X₁.warmed)
  exact ⟨v, vm₁, B, X₁.warmed, X', hpost, fun target h => hstep₁ _ fun acts => by rw [doInvoke_state]; exact hsteps.trans h⟩
theorem vx_runSW {y : MethodName} {bytes cc : ByteArray} {maxL nL mc ms n index : Nat} {ret : Option FieldType} {hh : List (Nat × Nat × Nat × Nat)} {ws : List Cond} {rm : Room} {Pc : Array Value → State → Prop} {Qc : Array Value → State → Outcome → State → Prop} {free : Addr → Prop} {Ts : List Cond} {own : String} {As rest : List Value} {g : JFrame}
    (S : CallFix p m c cc nL s args Ts own) (hM : Met l y ws rm Pc Qc mc ms free) (cw : vx_CSW R s args own index y bytes maxL ret hh ws rm mc ms n) (hp : PreS s H Pc As)
    (hg : g.method = m) (hn : As.length = n) (hsize : g.locals.size = nL) (hstack : g.stack = As.reverse ++ rest) (hW : 2 * g.monitorRoom + (rest.map fun v => v.category).sum ≤ 8) (hdg : decode cc g.pc = .ok (.invokestatic index, 3)) (hf : cells + mc ≤ R.cells ∧ slots + ms ≤ R.slots) :
    va_Run p l e R s m args below meth c H locs cells slots mc ms g rest (Qc As.toArray) (free) := by
  obtain ⟨⟨hrc, hrs, hfr, hlo, hws, hcw⟩, hcode, hini, hy, hlen, hl, hstt⟩ := cw
  have hK : Back l R p e below s args y 3 8 (PreOf R mc ms Pc) (PostOf Qc mc ms free) := va_backW (hh := hh) (bytes := bytes) (maxL := maxL) (ret := ret) hM hp.1 hrc hrs hfr hlo hws hcw (fun a' U hW => word_at hW (Or.inl (by first | rfl | simp [Cond.onTables, Cond.keeps, Cond.steady])) hini)
  obtain ⟨hx, hb, hml, ho, -⟩ := S
  intro T hT X
  obtain ⟨v, vm₁, ⟨U', l2, c2, s2⟩, hW₁, X', ⟨g', mk, t, L, e1, e2, hq, h1, hL, h2, h3⟩, st⟩ := vx_callSW X hx (hh := hh) (bytes := bytes) (maxL := maxL) (ret := ret) ho hl hstt hini hcode hy hK hg (hsize.trans hml.symm) (argsL := As) (rest := rest) (fun sig h => hn.trans (hlen sig h)) hstack hW (by rw [hb]; exact hdg)
    (fun vm₁ hW₁ => ⟨hf.1, hf.2, hp.2 (T.setVm vm₁) hT hW₁⟩)
  dsimp only [Pt.U, Pt.locs, Pt.cells, Pt.slots] at X' e1 e2 h1 h2 h3 st
  subst h1; subst h2; subst h3
  exact ⟨v, (T.setVm vm₁).calling g' mk As.toArray, t, U', L, hT, X', hL, e1, e2, hq, st⟩
end VXS
/-! ===== END ===== -/
end
section
def RX0 : String := "KeyTurner$Course"
def TX0 : u_T := fun k => match k with
  | 0 => ("KeyTurner$Course", "secret", "LKeyTurner$Secret;", true)
  | 1 => ("KeyTurner$Course", "comes", "[I", true)
  | 2 => ("KeyTurner$Course", "unanswered", "I", false)
  | 3 => ("KeyTurner$Course", "turn", "I", false)
  | 4 => ("KeyTurner$Course", "step", "I", false)
  | 5 => ("KeyTurner$Course", "stepBegan", "I", false)
  | 6 => ("KeyTurner$Course", "late", "I", false)
  | 7 => ("KeyTurner$Course", "latestLateAsk", "I", false)
  | _ => ("KeyTurner$Course", "handsOutLast", "Z", false)
def tyX0 : Nat → FieldType := fun k => match k with
  | 0 => .object "KeyTurner$Secret"
  | 1 => .array .int
  | 2 => .int
  | 3 => .int
  | 4 => .int
  | 5 => .int
  | 6 => .int
  | 7 => .int
  | _ => .boolean
abbrev wsX00 : List Cond := u_ws RX0 TX0 9
theorem nmX0 : ∀ a, a < 9 → ∀ b, b < 9 → a ≠ b → (TX0 a).2.1 ≠ (TX0 b).2.1 := by decide +kernel
theorem tyX0_ok : ∀ k, k < 9 → parseFieldDescriptor (TX0 k).2.2.1 = some (tyX0 k) := by decide +kernel
abbrev cX0_init : ByteArray := prog_2_method_1_code
def yX0_init : MethodName := ⟨RX0, "<init>", "()V"⟩
abbrev cX0_goesOn : ByteArray := prog_2_method_2_code
def yX0_goesOn : MethodName := ⟨RX0, "goesOn", "()Z"⟩
abbrev cX0_letterCount : ByteArray := prog_2_method_3_code
def yX0_letterCount : MethodName := ⟨RX0, "letterCount", "()I"⟩
abbrev cX0_start : ByteArray := prog_2_method_4_code
def yX0_start : MethodName := ⟨RX0, "start", "(IZILKeyTurner$People;)V"⟩
abbrev cX0_hurry : ByteArray := prog_2_method_5_code
def yX0_hurry : MethodName := ⟨RX0, "hurry", "(ILKeyTurner$People;)V"⟩
abbrev cX0_beginStep : ByteArray := prog_2_method_6_code
def yX0_beginStep : MethodName := ⟨RX0, "beginStep", "(IILKeyTurner$People;)V"⟩
abbrev cX0_write : ByteArray := prog_2_method_7_code
def yX0_write : MethodName := ⟨RX0, "write", "(IILKeyTurner$People;)V"⟩
abbrev cX0_takeLetters : ByteArray := prog_2_method_8_code
def yX0_takeLetters : MethodName := ⟨RX0, "takeLetters", "(ILKeyTurner$People;)V"⟩
abbrev cX0_act : ByteArray := prog_2_method_9_code
def yX0_act : MethodName := ⟨RX0, "act", "(I)V"⟩
abbrev cX0_isStepOver : ByteArray := prog_2_method_10_code
def yX0_isStepOver : MethodName := ⟨RX0, "isStepOver", "(III)Z"⟩
abbrev cX0_endOfWait : ByteArray := prog_2_method_11_code
def yX0_endOfWait : MethodName := ⟨RX0, "endOfWait", "(II)I"⟩
abbrev cX0_followingStep : ByteArray := prog_2_method_12_code
def yX0_followingStep : MethodName := ⟨RX0, "followingStep", "()I"⟩
abbrev cX0_nextLetter : ByteArray := prog_2_method_13_code
def yX0_nextLetter : MethodName := ⟨RX0, "nextLetter", "(ILKeyTurner$People;)I"⟩
abbrev cX0_nextStepEnd : ByteArray := prog_2_method_14_code
def yX0_nextStepEnd : MethodName := ⟨RX0, "nextStepEnd", "(IIII)I"⟩
abbrev cX0_notePass : ByteArray := prog_2_method_15_code
def yX0_notePass : MethodName := ⟨RX0, "notePass", "(III)V"⟩
def RX1 : String := "KeyTurner$Log"
def TX1 : u_T := fun k => match k with
  | 0 => ("KeyTurner$Log", "rows", "[I", true)
  | _ => ("KeyTurner$Log", "begun", "I", false)
def tyX1 : Nat → FieldType := fun k => match k with
  | 0 => .array .int
  | _ => .int
abbrev wsX10 : List Cond := u_ws RX1 TX1 2
theorem nmX1 : ∀ a, a < 2 → ∀ b, b < 2 → a ≠ b → (TX1 a).2.1 ≠ (TX1 b).2.1 := by decide +kernel
theorem tyX1_ok : ∀ k, k < 2 → parseFieldDescriptor (TX1 k).2.2.1 = some (tyX1 k) := by decide +kernel
abbrev cX1_init : ByteArray := prog_3_method_1_code
def yX1_init : MethodName := ⟨RX1, "<init>", "()V"⟩
abbrev cX1_isKept : ByteArray := prog_3_method_2_code
def yX1_isKept : MethodName := ⟨RX1, "isKept", "(I)Z"⟩
abbrev cX1_add : ByteArray := prog_3_method_3_code
def yX1_add : MethodName := ⟨RX1, "add", "(IIIZ)I"⟩
abbrev cX1_markOver : ByteArray := prog_3_method_4_code
def yX1_markOver : MethodName := ⟨RX1, "markOver", "(II)V"⟩
abbrev cX1_markStolen : ByteArray := prog_3_method_5_code
def yX1_markStolen : MethodName := ⟨RX1, "markStolen", "(I)V"⟩
def RX2 : String := "KeyTurner$People"
def TX2 : u_T := fun k => match k with
  | 0 => ("KeyTurner$People", "delays", "[I", true)
  | _ => ("KeyTurner$People", "downBits", "I", false)
def tyX2 : Nat → FieldType := fun k => match k with
  | 0 => .array .int
  | _ => .int
abbrev wsX20 : List Cond := u_ws RX2 TX2 2
theorem nmX2 : ∀ a, a < 2 → ∀ b, b < 2 → a ≠ b → (TX2 a).2.1 ≠ (TX2 b).2.1 := by decide +kernel
theorem tyX2_ok : ∀ k, k < 2 → parseFieldDescriptor (TX2 k).2.2.1 = some (tyX2 k) := by decide +kernel
abbrev cX2_init : ByteArray := prog_4_method_1_code
def yX2_init : MethodName := ⟨RX2, "<init>", "()V"⟩
abbrev cX2_isDown : ByteArray := prog_4_method_2_code
def yX2_isDown : MethodName := ⟨RX2, "isDown", "(I)Z"⟩
def RX3 : String := "KeyTurner$Secret"
def TX3 : u_T := fun k => match k with
  | 0 => ("KeyTurner$Secret", "kind", "I", false)
  | 1 => ("KeyTurner$Secret", "holders", "I", false)
  | 2 => ("KeyTurner$Secret", "checkers", "I", false)
  | 3 => ("KeyTurner$Secret", "life", "I", false)
  | 4 => ("KeyTurner$Secret", "latest", "I", false)
  | 5 => ("KeyTurner$Secret", "latestMade", "I", false)
  | 6 => ("KeyTurner$Secret", "olderMade", "I", false)
  | 7 => ("KeyTurner$Secret", "latestHeld", "I", false)
  | 8 => ("KeyTurner$Secret", "latestGood", "I", false)
  | _ => ("KeyTurner$Secret", "olderGood", "I", false)
def tyX3 : Nat → FieldType := fun k => match k with
  | 0 => .int
  | 1 => .int
  | 2 => .int
  | 3 => .int
  | 4 => .int
  | 5 => .int
  | 6 => .int
  | 7 => .int
  | 8 => .int
  | _ => .int
abbrev wsX30 : List Cond := u_ws RX3 TX3 10
theorem nmX3 : ∀ a, a < 10 → ∀ b, b < 10 → a ≠ b → (TX3 a).2.1 ≠ (TX3 b).2.1 := by decide +kernel
theorem tyX3_ok : ∀ k, k < 10 → parseFieldDescriptor (TX3 k).2.2.1 = some (tyX3 k) := by decide +kernel
abbrev cX3_init : ByteArray := prog_5_method_1_code
def yX3_init : MethodName := ⟨RX3, "<init>", "()V"⟩
abbrev cX3_open : ByteArray := prog_5_method_2_code
def yX3_open : MethodName := ⟨RX3, "open", "(IIIII)V"⟩
abbrev cX3_makeVersion : ByteArray := prog_5_method_3_code
def yX3_makeVersion : MethodName := ⟨RX3, "makeVersion", "(I)V"⟩
abbrev cX3_versionOf : ByteArray := prog_5_method_4_code
def yX3_versionOf : MethodName := ⟨RX3, "versionOf", "(I)I"⟩
abbrev cX3_isGoodAt : ByteArray := prog_5_method_5_code
def yX3_isGoodAt : MethodName := ⟨RX3, "isGoodAt", "(II)Z"⟩
abbrev cX3_oldestGoodMade : ByteArray := prog_5_method_6_code
def yX3_oldestGoodMade : MethodName := ⟨RX3, "oldestGoodMade", "()I"⟩
abbrev cX3_lockedOut : ByteArray := prog_5_method_7_code
def yX3_lockedOut : MethodName := ⟨RX3, "lockedOut", "()I"⟩
abbrev cX3_endOfLife : ByteArray := prog_5_method_8_code
def yX3_endOfLife : MethodName := ⟨RX3, "endOfLife", "()I"⟩
def RX4 : String := "KeyTurner$Web"
def TX4 : u_T := fun k => match k with
  | _ => ("KeyTurner$Web", "direct", "[I", true)
def tyX4 : Nat → FieldType := fun k => match k with
  | _ => .array .int
abbrev wsX40 : List Cond := u_ws RX4 TX4 1
theorem nmX4 : ∀ a, a < 1 → ∀ b, b < 1 → a ≠ b → (TX4 a).2.1 ≠ (TX4 b).2.1 := by decide +kernel
theorem tyX4_ok : ∀ k, k < 1 → parseFieldDescriptor (TX4 k).2.2.1 = some (tyX4 k) := by decide +kernel
abbrev cX4_init : ByteArray := prog_6_method_1_code
def yX4_init : MethodName := ⟨RX4, "<init>", "()V"⟩
abbrev cX4_isDirect : ByteArray := prog_6_method_2_code
def yX4_isDirect : MethodName := ⟨RX4, "isDirect", "(II)Z"⟩
abbrev cX4_put : ByteArray := prog_6_method_3_code
def yX4_put : MethodName := ⟨RX4, "put", "(IIZ)V"⟩
abbrev cX4_isReached : ByteArray := prog_6_method_4_code
def yX4_isReached : MethodName := ⟨RX4, "isReached", "(II)Z"⟩
def RX5 : String := "KeyTurner"
def TX5 : u_T := fun k => match k with
  | 0 => ("KeyTurner", "secrets", "[LKeyTurner$Secret;", true)
  | 1 => ("KeyTurner", "courses", "[LKeyTurner$Course;", true)
  | 2 => ("KeyTurner", "web", "LKeyTurner$Web;", true)
  | 3 => ("KeyTurner", "people", "LKeyTurner$People;", true)
  | 4 => ("KeyTurner", "log", "LKeyTurner$Log;", true)
  | 5 => ("KeyTurner", "secretCount", "I", false)
  | 6 => ("KeyTurner", "now", "I", false)
  | 7 => ("KeyTurner", "quiet", "I", false)
  | 8 => ("KeyTurner", "last", "I", false)
  | 9 => ("KeyTurner", "passed", "I", false)
  | _ => ("KeyTurner", "failed", "I", false)
def tyX5 : Nat → FieldType := fun k => match k with
  | 0 => .array (.object "KeyTurner$Secret")
  | 1 => .array (.object "KeyTurner$Course")
  | 2 => .object "KeyTurner$Web"
  | 3 => .object "KeyTurner$People"
  | 4 => .object "KeyTurner$Log"
  | 5 => .int
  | 6 => .int
  | 7 => .int
  | 8 => .int
  | 9 => .int
  | _ => .int
abbrev wsX50 : List Cond := u_ws RX5 TX5 11
theorem nmX5 : ∀ a, a < 11 → ∀ b, b < 11 → a ≠ b → (TX5 a).2.1 ≠ (TX5 b).2.1 := by decide +kernel
theorem tyX5_ok : ∀ k, k < 11 → parseFieldDescriptor (TX5 k).2.2.1 = some (tyX5 k) := by decide +kernel
abbrev cX5_init : ByteArray := prog_1_method_1_code
def yX5_init : MethodName := ⟨RX5, "<init>", "()V"⟩
abbrev cX5_secret : ByteArray := prog_1_method_2_code
def yX5_secret : MethodName := ⟨RX5, "secret", "(IIII)I"⟩
abbrev cX5_needs : ByteArray := prog_1_method_3_code
def yX5_needs : MethodName := ⟨RX5, "needs", "(IIZ)Z"⟩
abbrev cX5_delay : ByteArray := prog_1_method_4_code
def yX5_delay : MethodName := ⟨RX5, "delay", "(II)Z"⟩
abbrev cX5_quiet : ByteArray := prog_1_method_5_code
def yX5_quiet : MethodName := ⟨RX5, "quiet", "(II)Z"⟩
abbrev cX5_down : ByteArray := prog_1_method_6_code
def yX5_down : MethodName := ⟨RX5, "down", "(IZ)Z"⟩
abbrev cX5_turn : ByteArray := prog_1_method_7_code
def yX5_turn : MethodName := ⟨RX5, "turn", "(I)I"⟩
abbrev cX5_stolen : ByteArray := prog_1_method_8_code
def yX5_stolen : MethodName := ⟨RX5, "stolen", "(I)I"⟩
abbrev cX5_tick : ByteArray := prog_1_method_9_code
def yX5_tick : MethodName := ⟨RX5, "tick", "(I)I"⟩
abbrev cX5_ask : ByteArray := prog_1_method_10_code
def yX5_ask : MethodName := ⟨RX5, "ask", "(III)I"⟩
abbrev cX5_stranger : ByteArray := prog_1_method_11_code
def yX5_stranger : MethodName := ⟨RX5, "stranger", "(IIII)I"⟩
abbrev cX5_told : ByteArray := prog_1_method_12_code
def yX5_told : MethodName := ⟨RX5, "told", "(II)I"⟩
abbrev cX5_has : ByteArray := prog_1_method_13_code
def yX5_has : MethodName := ⟨RX5, "has", "(II)I"⟩
abbrev cX5_good : ByteArray := prog_1_method_14_code
def yX5_good : MethodName := ⟨RX5, "good", "(III)I"⟩
abbrev cX5_plan : ByteArray := prog_1_method_15_code
def yX5_plan : MethodName := ⟨RX5, "plan", "(I)I"⟩
abbrev cX5_hangs : ByteArray := prog_1_method_16_code
def yX5_hangs : MethodName := ⟨RX5, "hangs", "(II)Z"⟩
abbrev cX5_turned : ByteArray := prog_1_method_17_code
def yX5_turned : MethodName := ⟨RX5, "turned", "(II)I"⟩
abbrev cX5_count : ByteArray := prog_1_method_18_code
def yX5_count : MethodName := ⟨RX5, "count", "(I)I"⟩
abbrev cX5_isIn : ByteArray := prog_1_method_19_code
def yX5_isIn : MethodName := ⟨RX5, "isIn", "(II)Z"⟩
abbrev cX5_isSecret : ByteArray := prog_1_method_20_code
def yX5_isSecret : MethodName := ⟨RX5, "isSecret", "(I)Z"⟩
abbrev cX5_beginTurn : ByteArray := prog_1_method_21_code
def yX5_beginTurn : MethodName := ⟨RX5, "beginTurn", "(IZ)V"⟩
abbrev cX5_isHeldUp : ByteArray := prog_1_method_22_code
def yX5_isHeldUp : MethodName := ⟨RX5, "isHeldUp", "(I)Z"⟩
abbrev cX5_nextStir : ByteArray := prog_1_method_23_code
def yX5_nextStir : MethodName := ⟨RX5, "nextStir", "(I)I"⟩
abbrev cX5_goOn : ByteArray := prog_1_method_24_code
def yX5_goOn : MethodName := ⟨RX5, "goOn", "(LKeyTurner$Course;)V"⟩
abbrev cX5_opens : ByteArray := prog_1_method_25_code
def yX5_opens : MethodName := ⟨RX5, "opens", "(LKeyTurner$Secret;II)Z"⟩
abbrev cX5_noteAsk : ByteArray := prog_1_method_26_code
def yX5_noteAsk : MethodName := ⟨RX5, "noteAsk", "(LKeyTurner$Course;IIZ)I"⟩
abbrev cX5_nextOfPlan : ByteArray := prog_1_method_27_code
def yX5_nextOfPlan : MethodName := ⟨RX5, "nextOfPlan", "(I)I"⟩
abbrev cX5_turnsGoingOn : ByteArray := prog_1_method_28_code
def yX5_turnsGoingOn : MethodName := ⟨RX5, "turnsGoingOn", "()I"⟩
abbrev cX5_lettersUnanswered : ByteArray := prog_1_method_29_code
def yX5_lettersUnanswered : MethodName := ⟨RX5, "lettersUnanswered", "()I"⟩
abbrev cX5_secretsPastLife : ByteArray := prog_1_method_30_code
def yX5_secretsPastLife : MethodName := ⟨RX5, "secretsPastLife", "()I"⟩
def RX6 : String := "KeyTurnerModel"
def TX6 : u_T := fun k => match k with
  | 0 => ("KeyTurnerModel", "thrown", "I", false)
  | 1 => ("KeyTurnerModel", "now", "I", false)
  | 2 => ("KeyTurnerModel", "secrets", "I", false)
  | 3 => ("KeyTurnerModel", "letters", "I", false)
  | 4 => ("KeyTurnerModel", "turns", "I", false)
  | 5 => ("KeyTurnerModel", "passed", "I", false)
  | 6 => ("KeyTurnerModel", "failed", "I", false)
  | 7 => ("KeyTurnerModel", "quiet", "I", false)
  | 8 => ("KeyTurnerModel", "last", "I", false)
  | 9 => ("KeyTurnerModel", "kind", "[I", true)
  | 10 => ("KeyTurnerModel", "holders", "[I", true)
  | 11 => ("KeyTurnerModel", "checkers", "[I", true)
  | 12 => ("KeyTurnerModel", "life", "[I", true)
  | 13 => ("KeyTurnerModel", "latest", "[I", true)
  | 14 => ("KeyTurnerModel", "made", "[I", true)
  | 15 => ("KeyTurnerModel", "step", "[I", true)
  | 16 => ("KeyTurnerModel", "began", "[I", true)
  | 17 => ("KeyTurnerModel", "late", "[I", true)
  | 18 => ("KeyTurnerModel", "lastOld", "[I", true)
  | 19 => ("KeyTurnerModel", "open", "[I", true)
  | 20 => ("KeyTurnerModel", "turnOf", "[I", true)
  | 21 => ("KeyTurnerModel", "isQuick", "[Z", true)
  | 22 => ("KeyTurnerModel", "needs", "[Z", true)
  | 23 => ("KeyTurnerModel", "isDown", "[Z", true)
  | 24 => ("KeyTurnerModel", "has", "[I", true)
  | 25 => ("KeyTurnerModel", "oneGood", "[I", true)
  | 26 => ("KeyTurnerModel", "otherGood", "[I", true)
  | 27 => ("KeyTurnerModel", "delay", "[I", true)
  | 28 => ("KeyTurnerModel", "oneMade", "[I", true)
  | 29 => ("KeyTurnerModel", "otherMade", "[I", true)
  | 30 => ("KeyTurnerModel", "toWhom", "[I", true)
  | 31 => ("KeyTurnerModel", "ofSecret", "[I", true)
  | 32 => ("KeyTurnerModel", "comes", "[I", true)
  | 33 => ("KeyTurnerModel", "version", "[I", true)
  | 34 => ("KeyTurnerModel", "versionMade", "[I", true)
  | 35 => ("KeyTurnerModel", "isOnly", "[Z", true)
  | 36 => ("KeyTurnerModel", "turnSecret", "[I", true)
  | 37 => ("KeyTurnerModel", "turnVersion", "[I", true)
  | 38 => ("KeyTurnerModel", "turnBegan", "[I", true)
  | 39 => ("KeyTurnerModel", "turnOver", "[I", true)
  | 40 => ("KeyTurnerModel", "turnStolen", "[Z", true)
  | 41 => ("KeyTurnerModel", "seen", "[Z", true)
  | _ => ("KeyTurnerModel", "in", "[Z", true)
def tyX6 : Nat → FieldType := fun k => match k with
  | 0 => .int
  | 1 => .int
  | 2 => .int
  | 3 => .int
  | 4 => .int
  | 5 => .int
  | 6 => .int
  | 7 => .int
  | 8 => .int
  | 9 => .array .int
  | 10 => .array .int
  | 11 => .array .int
  | 12 => .array .int
  | 13 => .array .int
  | 14 => .array .int
  | 15 => .array .int
  | 16 => .array .int
  | 17 => .array .int
  | 18 => .array .int
  | 19 => .array .int
  | 20 => .array .int
  | 21 => .array .boolean
  | 22 => .array .boolean
  | 23 => .array .boolean
  | 24 => .array .int
  | 25 => .array .int
  | 26 => .array .int
  | 27 => .array .int
  | 28 => .array .int
  | 29 => .array .int
  | 30 => .array .int
  | 31 => .array .int
  | 32 => .array .int
  | 33 => .array .int
  | 34 => .array .int
  | 35 => .array .boolean
  | 36 => .array .int
  | 37 => .array .int
  | 38 => .array .int
  | 39 => .array .int
  | 40 => .array .boolean
  | 41 => .array .boolean
  | _ => .array .boolean
abbrev wsX60 : List Cond := u_ws RX6 TX6 43
theorem nmX6 : ∀ a, a < 43 → ∀ b, b < 43 → a ≠ b → (TX6 a).2.1 ≠ (TX6 b).2.1 := by decide +kernel
theorem tyX6_ok : ∀ k, k < 43 → parseFieldDescriptor (TX6 k).2.2.1 = some (tyX6 k) := by decide +kernel
abbrev cX6_init : ByteArray := prog_8_method_1_code
def yX6_init : MethodName := ⟨RX6, "<init>", "()V"⟩
abbrev cX6_isIn : ByteArray := prog_8_method_3_code
def yX6_isIn : MethodName := ⟨RX6, "isIn", "(III)Z"⟩
abbrev cX6_isSecret : ByteArray := prog_8_method_4_code
def yX6_isSecret : MethodName := ⟨RX6, "isSecret", "(I)Z"⟩
abbrev cX6_isOf : ByteArray := prog_8_method_5_code
def yX6_isOf : MethodName := ⟨RX6, "isOf", "(II)Z"⟩
abbrev cX6_secret : ByteArray := prog_8_method_6_code
def yX6_secret : MethodName := ⟨RX6, "secret", "(IIII)I"⟩
abbrev cX6_hangsOn : ByteArray := prog_8_method_7_code
def yX6_hangsOn : MethodName := ⟨RX6, "hangsOn", "(II)Z"⟩
abbrev cX6_needs : ByteArray := prog_8_method_8_code
def yX6_needs : MethodName := ⟨RX6, "needs", "(IIZ)Z"⟩
abbrev cX6_hangs : ByteArray := prog_8_method_9_code
def yX6_hangs : MethodName := ⟨RX6, "hangs", "(II)Z"⟩
abbrev cX6_plan : ByteArray := prog_8_method_10_code
def yX6_plan : MethodName := ⟨RX6, "plan", "(I)I"⟩
abbrev cX6_delay : ByteArray := prog_8_method_11_code
def yX6_delay : MethodName := ⟨RX6, "delay", "(II)Z"⟩
abbrev cX6_quiet : ByteArray := prog_8_method_12_code
def yX6_quiet : MethodName := ⟨RX6, "quiet", "(II)Z"⟩
abbrev cX6_down : ByteArray := prog_8_method_13_code
def yX6_down : MethodName := ⟨RX6, "down", "(IZ)Z"⟩
abbrev cX6_write : ByteArray := prog_8_method_14_code
def yX6_write : MethodName := ⟨RX6, "write", "(IIZ)V"⟩
abbrev cX6_begins : ByteArray := prog_8_method_15_code
def yX6_begins : MethodName := ⟨RX6, "begins", "(II)V"⟩
abbrev cX6_act : ByteArray := prog_8_method_16_code
def yX6_act : MethodName := ⟨RX6, "act", "(I)V"⟩
abbrev cX6_take : ByteArray := prog_8_method_17_code
def yX6_take : MethodName := ⟨RX6, "take", "(I)V"⟩
abbrev cX6_isOver : ByteArray := prog_8_method_18_code
def yX6_isOver : MethodName := ⟨RX6, "isOver", "(I)Z"⟩
abbrev cX6_next : ByteArray := prog_8_method_19_code
def yX6_next : MethodName := ⟨RX6, "next", "(I)I"⟩
abbrev cX6_goesOn : ByteArray := prog_8_method_20_code
def yX6_goesOn : MethodName := ⟨RX6, "goesOn", "(I)V"⟩
abbrev cX6_tick : ByteArray := prog_8_method_21_code
def yX6_tick : MethodName := ⟨RX6, "tick", "(I)I"⟩
abbrev cX6_start : ByteArray := prog_8_method_22_code
def yX6_start : MethodName := ⟨RX6, "start", "(IZ)V"⟩
abbrev cX6_turn : ByteArray := prog_8_method_23_code
def yX6_turn : MethodName := ⟨RX6, "turn", "(I)I"⟩
abbrev cX6_stolen : ByteArray := prog_8_method_24_code
def yX6_stolen : MethodName := ⟨RX6, "stolen", "(I)I"⟩
abbrev cX6_isGood : ByteArray := prog_8_method_25_code
def yX6_isGood : MethodName := ⟨RX6, "isGood", "(III)Z"⟩
abbrev cX6_asks : ByteArray := prog_8_method_26_code
def yX6_asks : MethodName := ⟨RX6, "asks", "(IIIIZ)I"⟩
abbrev cX6_isChecker : ByteArray := prog_8_method_27_code
def yX6_isChecker : MethodName := ⟨RX6, "isChecker", "(II)Z"⟩
abbrev cX6_isHolder : ByteArray := prog_8_method_28_code
def yX6_isHolder : MethodName := ⟨RX6, "isHolder", "(II)Z"⟩
abbrev cX6_ask : ByteArray := prog_8_method_29_code
def yX6_ask : MethodName := ⟨RX6, "ask", "(III)I"⟩
abbrev cX6_stranger : ByteArray := prog_8_method_30_code
def yX6_stranger : MethodName := ⟨RX6, "stranger", "(IIII)I"⟩
abbrev cX6_age : ByteArray := prog_8_method_31_code
def yX6_age : MethodName := ⟨RX6, "age", "(I)I"⟩
abbrev cX6_lockedOut : ByteArray := prog_8_method_32_code
def yX6_lockedOut : MethodName := ⟨RX6, "lockedOut", "(I)I"⟩
abbrev cX6_told : ByteArray := prog_8_method_33_code
def yX6_told : MethodName := ⟨RX6, "told", "(II)I"⟩
abbrev cX6_has : ByteArray := prog_8_method_34_code
def yX6_has : MethodName := ⟨RX6, "has", "(II)I"⟩
abbrev cX6_good : ByteArray := prog_8_method_35_code
def yX6_good : MethodName := ⟨RX6, "good", "(III)I"⟩
abbrev cX6_turned : ByteArray := prog_8_method_36_code
def yX6_turned : MethodName := ⟨RX6, "turned", "(II)I"⟩
abbrev cX6_count : ByteArray := prog_8_method_37_code
def yX6_count : MethodName := ⟨RX6, "count", "(I)I"⟩
def RJ6 : String := "java/lang/Integer"
def TJ6 : u_T := fun k => match k with
  | _ => ("", "", "", false)
def tyJ6 : Nat → FieldType := fun k => match k with
  | _ => .int
theorem nmJ6 : ∀ a, a < 0 → ∀ b, b < 0 → a ≠ b → (TJ6 a).2.1 ≠ (TJ6 b).2.1 := by decide +kernel
theorem tyJ6_ok : ∀ k, k < 0 → parseFieldDescriptor (TJ6 k).2.2.1 = some (tyJ6 k) := by decide +kernel
abbrev cJ6_bitCount_0f7a4 : ByteArray := prog_10_method_49_code
def yJ6_bitCount_0f7a4 : MethodName := ⟨RJ6, "bitCount", "(I)I"⟩
def RJ9 : String := "java/lang/Math"
def TJ9 : u_T := fun k => match k with
  | _ => ("", "", "", false)
def tyJ9 : Nat → FieldType := fun k => match k with
  | _ => .int
theorem nmJ9 : ∀ a, a < 0 → ∀ b, b < 0 → a ≠ b → (TJ9 a).2.1 ≠ (TJ9 b).2.1 := by decide +kernel
theorem tyJ9_ok : ∀ k, k < 0 → parseFieldDescriptor (TJ9 k).2.2.1 = some (tyJ9 k) := by decide +kernel
abbrev cJ9_max_7cf53 : ByteArray := prog_11_method_65_code
def yJ9_max_7cf53 : MethodName := ⟨RJ9, "max", "(II)I"⟩
abbrev cJ9_min_7cf53 : ByteArray := prog_11_method_69_code
def yJ9_min_7cf53 : MethodName := ⟨RJ9, "min", "(II)I"⟩
def RJ0 : String := "java/lang/String"
def TJ0 : u_T := fun k => match k with
  | _ => ("", "", "", false)
def tyJ0 : Nat → FieldType := fun k => match k with
  | _ => .int
theorem nmJ0 : ∀ a, a < 0 → ∀ b, b < 0 → a ≠ b → (TJ0 a).2.1 ≠ (TJ0 b).2.1 := by decide +kernel
theorem tyJ0_ok : ∀ k, k < 0 → parseFieldDescriptor (TJ0 k).2.2.1 = some (tyJ0 k) := by decide +kernel
def RL : String := "KeyTurnerLaw"
abbrev cL_turned : ByteArray := method_3_code
def yL_turned : MethodName := ⟨RL, "turned", "(LKeyTurner;II[J)I"⟩
abbrev cL_law : ByteArray := code
def yL_law : MethodName := ⟨RL, "law", "([I)Z"⟩
abbrev vwCl : List vw_C := [(RX0, TX0, 9), (RX1, TX1, 2), (RX2, TX2, 2), (RX3, TX3, 10), (RX4, TX4, 1), (RX5, TX5, 11), (RX6, TX6, 43)]
end
section
theorem dX0_init_0 : decode cX0_init 0 = .ok (.aload_n 0, 1) := by decide +kernel
theorem dX0_init_1 : decode cX0_init 1 = .ok (.invokespecial 3, 3) := by decide +kernel
theorem dX0_init_4 : decode cX0_init 4 = .ok (.aload_n 0, 1) := by decide +kernel
theorem dX0_init_5 : decode cX0_init 5 = .ok (.new 9, 3) := by decide +kernel
theorem dX0_init_8 : decode cX0_init 8 = .ok (.dup, 1) := by decide +kernel
theorem dX0_init_9 : decode cX0_init 9 = .ok (.invokespecial 11, 3) := by decide +kernel
theorem dX0_init_12 : decode cX0_init 12 = .ok (.putfield 12, 3) := by decide +kernel
theorem dX0_init_15 : decode cX0_init 15 = .ok (.aload_n 0, 1) := by decide +kernel
theorem dX0_init_16 : decode cX0_init 16 = .ok (.bipush 16, 2) := by decide +kernel
theorem dX0_init_18 : decode cX0_init 18 = .ok (.newarray .int, 2) := by decide +kernel
theorem dX0_init_20 : decode cX0_init 20 = .ok (.putfield 18, 3) := by decide +kernel
theorem dX0_init_23 : decode cX0_init 23 = .ok (.aload_n 0, 1) := by decide +kernel
theorem dX0_init_24 : decode cX0_init 24 = .ok (.iconst 0, 1) := by decide +kernel
theorem dX0_init_25 : decode cX0_init 25 = .ok (.putfield 22, 3) := by decide +kernel
theorem dX0_init_28 : decode cX0_init 28 = .ok (.aload_n 0, 1) := by decide +kernel
theorem dX0_init_29 : decode cX0_init 29 = .ok (.iconst (-1), 1) := by decide +kernel
theorem dX0_init_30 : decode cX0_init 30 = .ok (.putfield 26, 3) := by decide +kernel
theorem dX0_init_33 : decode cX0_init 33 = .ok (.aload_n 0, 1) := by decide +kernel
theorem dX0_init_34 : decode cX0_init 34 = .ok (.iconst 0, 1) := by decide +kernel
theorem dX0_init_35 : decode cX0_init 35 = .ok (.putfield 29, 3) := by decide +kernel
theorem dX0_init_38 : decode cX0_init 38 = .ok (.aload_n 0, 1) := by decide +kernel
theorem dX0_init_39 : decode cX0_init 39 = .ok (.iconst 0, 1) := by decide +kernel
theorem dX0_init_40 : decode cX0_init 40 = .ok (.putfield 32, 3) := by decide +kernel
theorem dX0_init_43 : decode cX0_init 43 = .ok (.aload_n 0, 1) := by decide +kernel
theorem dX0_init_44 : decode cX0_init 44 = .ok (.iconst 0, 1) := by decide +kernel
theorem dX0_init_45 : decode cX0_init 45 = .ok (.putfield 35, 3) := by decide +kernel
theorem dX0_init_48 : decode cX0_init 48 = .ok (.aload_n 0, 1) := by decide +kernel
theorem dX0_init_49 : decode cX0_init 49 = .ok (.iconst 0, 1) := by decide +kernel
theorem dX0_init_50 : decode cX0_init 50 = .ok (.putfield 38, 3) := by decide +kernel
theorem dX0_init_53 : decode cX0_init 53 = .ok (.aload_n 0, 1) := by decide +kernel
theorem dX0_init_54 : decode cX0_init 54 = .ok (.iconst 0, 1) := by decide +kernel
theorem dX0_init_55 : decode cX0_init 55 = .ok (.putfield 41, 3) := by decide +kernel
theorem dX0_init_58 : decode cX0_init 58 = .ok (.return_, 1) := by decide +kernel
theorem dX0_goesOn_0 : decode cX0_goesOn 0 = .ok (.aload_n 0, 1) := by decide +kernel
theorem dX0_goesOn_1 : decode cX0_goesOn 1 = .ok (.getfield 29, 3) := by decide +kernel
theorem dX0_goesOn_4 : decode cX0_goesOn 4 = .ok (.ifCond .eq 7, 3) := by decide +kernel
theorem dX0_goesOn_7 : decode cX0_goesOn 7 = .ok (.iconst 1, 1) := by decide +kernel
theorem dX0_goesOn_8 : decode cX0_goesOn 8 = .ok (.goto 4, 3) := by decide +kernel
theorem dX0_goesOn_11 : decode cX0_goesOn 11 = .ok (.iconst 0, 1) := by decide +kernel
theorem dX0_goesOn_12 : decode cX0_goesOn 12 = .ok (.ireturn, 1) := by decide +kernel
set_option maxRecDepth 20000 in
theorem dX0_letterCount_0 : decode cX0_letterCount 0 = .ok (.aload_n 0, 1) := by decide +kernel
theorem dX0_letterCount_1 : decode cX0_letterCount 1 = .ok (.getfield 22, 3) := by decide +kernel
theorem dX0_letterCount_4 : decode cX0_letterCount 4 = .ok (.invokestatic 45, 3) := by decide +kernel
theorem dX0_letterCount_7 : decode cX0_letterCount 7 = .ok (.ireturn, 1) := by decide +kernel
set_option maxRecDepth 20000 in
theorem dX0_start_0 : decode cX0_start 0 = .ok (.aload_n 0, 1) := by decide +kernel
theorem dX0_start_1 : decode cX0_start 1 = .ok (.iload_n 1, 1) := by decide +kernel
theorem dX0_start_2 : decode cX0_start 2 = .ok (.putfield 26, 3) := by decide +kernel
theorem dX0_start_5 : decode cX0_start 5 = .ok (.aload_n 0, 1) := by decide +kernel
theorem dX0_start_6 : decode cX0_start 6 = .ok (.iload_n 2, 1) := by decide +kernel
theorem dX0_start_7 : decode cX0_start 7 = .ok (.ifCond .ne 14, 3) := by decide +kernel
theorem dX0_start_10 : decode cX0_start 10 = .ok (.aload_n 0, 1) := by decide +kernel
theorem dX0_start_11 : decode cX0_start 11 = .ok (.getfield 12, 3) := by decide +kernel
theorem dX0_start_14 : decode cX0_start 14 = .ok (.getfield 51, 3) := by decide +kernel
theorem dX0_start_17 : decode cX0_start 17 = .ok (.iconst 1, 1) := by decide +kernel
theorem dX0_start_18 : decode cX0_start 18 = .ok (.if_icmp .ne 7, 3) := by decide +kernel
theorem dX0_start_21 : decode cX0_start 21 = .ok (.iconst 1, 1) := by decide +kernel
theorem dX0_start_22 : decode cX0_start 22 = .ok (.goto 4, 3) := by decide +kernel
theorem dX0_start_25 : decode cX0_start 25 = .ok (.iconst 0, 1) := by decide +kernel
theorem dX0_start_26 : decode cX0_start 26 = .ok (.putfield 41, 3) := by decide +kernel
theorem dX0_start_29 : decode cX0_start 29 = .ok (.aload_n 0, 1) := by decide +kernel
theorem dX0_start_30 : decode cX0_start 30 = .ok (.aload_n 0, 1) := by decide +kernel
theorem dX0_start_31 : decode cX0_start 31 = .ok (.getfield 12, 3) := by decide +kernel
theorem dX0_start_34 : decode cX0_start 34 = .ok (.getfield 51, 3) := by decide +kernel
theorem dX0_start_37 : decode cX0_start 37 = .ok (.iconst 1, 1) := by decide +kernel
theorem dX0_start_38 : decode cX0_start 38 = .ok (.if_icmp .ne 7, 3) := by decide +kernel
theorem dX0_start_41 : decode cX0_start 41 = .ok (.iconst 5, 1) := by decide +kernel
theorem dX0_start_42 : decode cX0_start 42 = .ok (.goto 4, 3) := by decide +kernel
theorem dX0_start_45 : decode cX0_start 45 = .ok (.iconst 1, 1) := by decide +kernel
theorem dX0_start_46 : decode cX0_start 46 = .ok (.iload_n 3, 1) := by decide +kernel
theorem dX0_start_47 : decode cX0_start 47 = .ok (.aload 4, 2) := by decide +kernel
theorem dX0_start_49 : decode cX0_start 49 = .ok (.invokevirtual 54, 3) := by decide +kernel
theorem dX0_start_52 : decode cX0_start 52 = .ok (.return_, 1) := by decide +kernel
set_option maxRecDepth 20000 in
theorem dX0_hurry_0 : decode cX0_hurry 0 = .ok (.aload_n 0, 1) := by decide +kernel
theorem dX0_hurry_1 : decode cX0_hurry 1 = .ok (.getfield 12, 3) := by decide +kernel
theorem dX0_hurry_4 : decode cX0_hurry 4 = .ok (.getfield 51, 3) := by decide +kernel
theorem dX0_hurry_7 : decode cX0_hurry 7 = .ok (.iconst 1, 1) := by decide +kernel
theorem dX0_hurry_8 : decode cX0_hurry 8 = .ok (.if_icmp .ne 4, 3) := by decide +kernel
theorem dX0_hurry_11 : decode cX0_hurry 11 = .ok (.return_, 1) := by decide +kernel
theorem dX0_hurry_12 : decode cX0_hurry 12 = .ok (.aload_n 0, 1) := by decide +kernel
theorem dX0_hurry_13 : decode cX0_hurry 13 = .ok (.getfield 29, 3) := by decide +kernel
theorem dX0_hurry_16 : decode cX0_hurry 16 = .ok (.iconst 1, 1) := by decide +kernel
theorem dX0_hurry_17 : decode cX0_hurry 17 = .ok (.if_icmp .ne 11, 3) := by decide +kernel
theorem dX0_hurry_20 : decode cX0_hurry 20 = .ok (.aload_n 0, 1) := by decide +kernel
theorem dX0_hurry_21 : decode cX0_hurry 21 = .ok (.iconst 1, 1) := by decide +kernel
theorem dX0_hurry_22 : decode cX0_hurry 22 = .ok (.putfield 41, 3) := by decide +kernel
theorem dX0_hurry_25 : decode cX0_hurry 25 = .ok (.goto 31, 3) := by decide +kernel
theorem dX0_hurry_28 : decode cX0_hurry 28 = .ok (.aload_n 0, 1) := by decide +kernel
theorem dX0_hurry_29 : decode cX0_hurry 29 = .ok (.getfield 29, 3) := by decide +kernel
theorem dX0_hurry_32 : decode cX0_hurry 32 = .ok (.iconst 2, 1) := by decide +kernel
theorem dX0_hurry_33 : decode cX0_hurry 33 = .ok (.if_icmp .eq 11, 3) := by decide +kernel
theorem dX0_hurry_36 : decode cX0_hurry 36 = .ok (.aload_n 0, 1) := by decide +kernel
theorem dX0_hurry_37 : decode cX0_hurry 37 = .ok (.getfield 29, 3) := by decide +kernel
theorem dX0_hurry_40 : decode cX0_hurry 40 = .ok (.iconst 3, 1) := by decide +kernel
theorem dX0_hurry_41 : decode cX0_hurry 41 = .ok (.if_icmp .ne 15, 3) := by decide +kernel
theorem dX0_hurry_44 : decode cX0_hurry 44 = .ok (.aload_n 0, 1) := by decide +kernel
theorem dX0_hurry_45 : decode cX0_hurry 45 = .ok (.iconst 0, 1) := by decide +kernel
theorem dX0_hurry_46 : decode cX0_hurry 46 = .ok (.putfield 41, 3) := by decide +kernel
theorem dX0_hurry_49 : decode cX0_hurry 49 = .ok (.aload_n 0, 1) := by decide +kernel
theorem dX0_hurry_50 : decode cX0_hurry 50 = .ok (.iconst 4, 1) := by decide +kernel
theorem dX0_hurry_51 : decode cX0_hurry 51 = .ok (.iload_n 1, 1) := by decide +kernel
theorem dX0_hurry_52 : decode cX0_hurry 52 = .ok (.aload_n 2, 1) := by decide +kernel
theorem dX0_hurry_53 : decode cX0_hurry 53 = .ok (.invokevirtual 54, 3) := by decide +kernel
theorem dX0_hurry_56 : decode cX0_hurry 56 = .ok (.return_, 1) := by decide +kernel
set_option maxRecDepth 20000 in
theorem dX0_beginStep_0 : decode cX0_beginStep 0 = .ok (.aload_n 0, 1) := by decide +kernel
theorem dX0_beginStep_1 : decode cX0_beginStep 1 = .ok (.iload_n 1, 1) := by decide +kernel
theorem dX0_beginStep_2 : decode cX0_beginStep 2 = .ok (.putfield 29, 3) := by decide +kernel
theorem dX0_beginStep_5 : decode cX0_beginStep 5 = .ok (.aload_n 0, 1) := by decide +kernel
theorem dX0_beginStep_6 : decode cX0_beginStep 6 = .ok (.iload_n 2, 1) := by decide +kernel
theorem dX0_beginStep_7 : decode cX0_beginStep 7 = .ok (.putfield 32, 3) := by decide +kernel
theorem dX0_beginStep_10 : decode cX0_beginStep 10 = .ok (.aload_n 0, 1) := by decide +kernel
theorem dX0_beginStep_11 : decode cX0_beginStep 11 = .ok (.iload_n 2, 1) := by decide +kernel
theorem dX0_beginStep_12 : decode cX0_beginStep 12 = .ok (.putfield 38, 3) := by decide +kernel
theorem dX0_beginStep_15 : decode cX0_beginStep 15 = .ok (.aload_n 0, 1) := by decide +kernel
theorem dX0_beginStep_16 : decode cX0_beginStep 16 = .ok (.iconst 0, 1) := by decide +kernel
theorem dX0_beginStep_17 : decode cX0_beginStep 17 = .ok (.putfield 35, 3) := by decide +kernel
theorem dX0_beginStep_20 : decode cX0_beginStep 20 = .ok (.iload_n 1, 1) := by decide +kernel
theorem dX0_beginStep_21 : decode cX0_beginStep 21 = .ok (.iconst 2, 1) := by decide +kernel
theorem dX0_beginStep_22 : decode cX0_beginStep 22 = .ok (.if_icmp .ne 19, 3) := by decide +kernel
theorem dX0_beginStep_25 : decode cX0_beginStep 25 = .ok (.aload_n 0, 1) := by decide +kernel
theorem dX0_beginStep_26 : decode cX0_beginStep 26 = .ok (.aload_n 0, 1) := by decide +kernel
theorem dX0_beginStep_27 : decode cX0_beginStep 27 = .ok (.getfield 12, 3) := by decide +kernel
theorem dX0_beginStep_30 : decode cX0_beginStep 30 = .ok (.getfield 58, 3) := by decide +kernel
theorem dX0_beginStep_33 : decode cX0_beginStep 33 = .ok (.iload_n 2, 1) := by decide +kernel
theorem dX0_beginStep_34 : decode cX0_beginStep 34 = .ok (.aload_n 3, 1) := by decide +kernel
theorem dX0_beginStep_35 : decode cX0_beginStep 35 = .ok (.invokevirtual 61, 3) := by decide +kernel
theorem dX0_beginStep_38 : decode cX0_beginStep 38 = .ok (.goto 28, 3) := by decide +kernel
theorem dX0_beginStep_41 : decode cX0_beginStep 41 = .ok (.iload_n 1, 1) := by decide +kernel
theorem dX0_beginStep_42 : decode cX0_beginStep 42 = .ok (.iconst 3, 1) := by decide +kernel
theorem dX0_beginStep_43 : decode cX0_beginStep 43 = .ok (.if_icmp .eq 23, 3) := by decide +kernel
theorem dX0_beginStep_46 : decode cX0_beginStep 46 = .ok (.iload_n 1, 1) := by decide +kernel
theorem dX0_beginStep_47 : decode cX0_beginStep 47 = .ok (.ifCond .eq 19, 3) := by decide +kernel
theorem dX0_beginStep_50 : decode cX0_beginStep 50 = .ok (.aload_n 0, 1) := by decide +kernel
theorem dX0_beginStep_51 : decode cX0_beginStep 51 = .ok (.aload_n 0, 1) := by decide +kernel
theorem dX0_beginStep_52 : decode cX0_beginStep 52 = .ok (.getfield 12, 3) := by decide +kernel
theorem dX0_beginStep_55 : decode cX0_beginStep 55 = .ok (.getfield 64, 3) := by decide +kernel
theorem dX0_beginStep_58 : decode cX0_beginStep 58 = .ok (.bipush 10, 2) := by decide +kernel
theorem dX0_beginStep_60 : decode cX0_beginStep 60 = .ok (.ishl, 1) := by decide +kernel
theorem dX0_beginStep_61 : decode cX0_beginStep 61 = .ok (.iload_n 2, 1) := by decide +kernel
theorem dX0_beginStep_62 : decode cX0_beginStep 62 = .ok (.aload_n 3, 1) := by decide +kernel
theorem dX0_beginStep_63 : decode cX0_beginStep 63 = .ok (.invokevirtual 61, 3) := by decide +kernel
theorem dX0_beginStep_66 : decode cX0_beginStep 66 = .ok (.return_, 1) := by decide +kernel
set_option maxRecDepth 20000 in
theorem dX0_write_0 : decode cX0_write 0 = .ok (.iconst 0, 1) := by decide +kernel
theorem dX0_write_1 : decode cX0_write 1 = .ok (.istore 4, 2) := by decide +kernel
theorem dX0_write_3 : decode cX0_write 3 = .ok (.iload 4, 2) := by decide +kernel
theorem dX0_write_5 : decode cX0_write 5 = .ok (.bipush 16, 2) := by decide +kernel
theorem dX0_write_7 : decode cX0_write 7 = .ok (.if_icmp .ge 38, 3) := by decide +kernel
theorem dX0_write_10 : decode cX0_write 10 = .ok (.iload_n 1, 1) := by decide +kernel
theorem dX0_write_11 : decode cX0_write 11 = .ok (.iload 4, 2) := by decide +kernel
theorem dX0_write_13 : decode cX0_write 13 = .ok (.invokestatic 67, 3) := by decide +kernel
theorem dX0_write_16 : decode cX0_write 16 = .ok (.ifCond .eq 23, 3) := by decide +kernel
theorem dX0_write_19 : decode cX0_write 19 = .ok (.aload_n 0, 1) := by decide +kernel
theorem dX0_write_20 : decode cX0_write 20 = .ok (.getfield 18, 3) := by decide +kernel
theorem dX0_write_23 : decode cX0_write 23 = .ok (.iload 4, 2) := by decide +kernel
theorem dX0_write_25 : decode cX0_write 25 = .ok (.iload_n 2, 1) := by decide +kernel
theorem dX0_write_26 : decode cX0_write 26 = .ok (.iconst 1, 1) := by decide +kernel
theorem dX0_write_27 : decode cX0_write 27 = .ok (.aload_n 3, 1) := by decide +kernel
theorem dX0_write_28 : decode cX0_write 28 = .ok (.getfield 71, 3) := by decide +kernel
theorem dX0_write_31 : decode cX0_write 31 = .ok (.iload 4, 2) := by decide +kernel
theorem dX0_write_33 : decode cX0_write 33 = .ok (.iaload, 1) := by decide +kernel
theorem dX0_write_34 : decode cX0_write 34 = .ok (.invokestatic 76, 3) := by decide +kernel
theorem dX0_write_37 : decode cX0_write 37 = .ok (.iadd, 1) := by decide +kernel
theorem dX0_write_38 : decode cX0_write 38 = .ok (.iastore, 1) := by decide +kernel
theorem dX0_write_39 : decode cX0_write 39 = .ok (.iinc 4 1, 3) := by decide +kernel
theorem dX0_write_42 : decode cX0_write 42 = .ok (.goto (-39), 3) := by decide +kernel
theorem dX0_write_45 : decode cX0_write 45 = .ok (.aload_n 0, 1) := by decide +kernel
theorem dX0_write_46 : decode cX0_write 46 = .ok (.dup, 1) := by decide +kernel
theorem dX0_write_47 : decode cX0_write 47 = .ok (.getfield 22, 3) := by decide +kernel
theorem dX0_write_50 : decode cX0_write 50 = .ok (.iload_n 1, 1) := by decide +kernel
theorem dX0_write_51 : decode cX0_write 51 = .ok (.ior, 1) := by decide +kernel
theorem dX0_write_52 : decode cX0_write 52 = .ok (.putfield 22, 3) := by decide +kernel
theorem dX0_write_55 : decode cX0_write 55 = .ok (.return_, 1) := by decide +kernel
set_option maxRecDepth 20000 in
theorem dX0_takeLetters_0 : decode cX0_takeLetters 0 = .ok (.iconst 0, 1) := by decide +kernel
theorem dX0_takeLetters_1 : decode cX0_takeLetters 1 = .ok (.istore_n 3, 1) := by decide +kernel
theorem dX0_takeLetters_2 : decode cX0_takeLetters 2 = .ok (.iload_n 3, 1) := by decide +kernel
theorem dX0_takeLetters_3 : decode cX0_takeLetters 3 = .ok (.bipush 16, 2) := by decide +kernel
theorem dX0_takeLetters_5 : decode cX0_takeLetters 5 = .ok (.if_icmp .ge 64, 3) := by decide +kernel
theorem dX0_takeLetters_8 : decode cX0_takeLetters 8 = .ok (.aload_n 0, 1) := by decide +kernel
theorem dX0_takeLetters_9 : decode cX0_takeLetters 9 = .ok (.getfield 22, 3) := by decide +kernel
theorem dX0_takeLetters_12 : decode cX0_takeLetters 12 = .ok (.ifCond .eq 57, 3) := by decide +kernel
theorem dX0_takeLetters_15 : decode cX0_takeLetters 15 = .ok (.aload_n 0, 1) := by decide +kernel
theorem dX0_takeLetters_16 : decode cX0_takeLetters 16 = .ok (.getfield 22, 3) := by decide +kernel
theorem dX0_takeLetters_19 : decode cX0_takeLetters 19 = .ok (.iload_n 3, 1) := by decide +kernel
theorem dX0_takeLetters_20 : decode cX0_takeLetters 20 = .ok (.invokestatic 67, 3) := by decide +kernel
theorem dX0_takeLetters_23 : decode cX0_takeLetters 23 = .ok (.ifCond .eq 40, 3) := by decide +kernel
theorem dX0_takeLetters_26 : decode cX0_takeLetters 26 = .ok (.aload_n 0, 1) := by decide +kernel
theorem dX0_takeLetters_27 : decode cX0_takeLetters 27 = .ok (.getfield 18, 3) := by decide +kernel
theorem dX0_takeLetters_30 : decode cX0_takeLetters 30 = .ok (.iload_n 3, 1) := by decide +kernel
theorem dX0_takeLetters_31 : decode cX0_takeLetters 31 = .ok (.iaload, 1) := by decide +kernel
theorem dX0_takeLetters_32 : decode cX0_takeLetters 32 = .ok (.iload_n 1, 1) := by decide +kernel
theorem dX0_takeLetters_33 : decode cX0_takeLetters 33 = .ok (.if_icmp .gt 30, 3) := by decide +kernel
theorem dX0_takeLetters_36 : decode cX0_takeLetters 36 = .ok (.aload_n 2, 1) := by decide +kernel
theorem dX0_takeLetters_37 : decode cX0_takeLetters 37 = .ok (.iload_n 3, 1) := by decide +kernel
theorem dX0_takeLetters_38 : decode cX0_takeLetters 38 = .ok (.invokevirtual 82, 3) := by decide +kernel
theorem dX0_takeLetters_41 : decode cX0_takeLetters 41 = .ok (.ifCond .ne 22, 3) := by decide +kernel
theorem dX0_takeLetters_44 : decode cX0_takeLetters 44 = .ok (.aload_n 0, 1) := by decide +kernel
theorem dX0_takeLetters_45 : decode cX0_takeLetters 45 = .ok (.iload_n 3, 1) := by decide +kernel
theorem dX0_takeLetters_46 : decode cX0_takeLetters 46 = .ok (.invokevirtual 86, 3) := by decide +kernel
theorem dX0_takeLetters_49 : decode cX0_takeLetters 49 = .ok (.aload_n 0, 1) := by decide +kernel
theorem dX0_takeLetters_50 : decode cX0_takeLetters 50 = .ok (.dup, 1) := by decide +kernel
theorem dX0_takeLetters_51 : decode cX0_takeLetters 51 = .ok (.getfield 22, 3) := by decide +kernel
theorem dX0_takeLetters_54 : decode cX0_takeLetters 54 = .ok (.iconst 1, 1) := by decide +kernel
theorem dX0_takeLetters_55 : decode cX0_takeLetters 55 = .ok (.iload_n 3, 1) := by decide +kernel
theorem dX0_takeLetters_56 : decode cX0_takeLetters 56 = .ok (.ishl, 1) := by decide +kernel
theorem dX0_takeLetters_57 : decode cX0_takeLetters 57 = .ok (.iconst (-1), 1) := by decide +kernel
theorem dX0_takeLetters_58 : decode cX0_takeLetters 58 = .ok (.ixor, 1) := by decide +kernel
theorem dX0_takeLetters_59 : decode cX0_takeLetters 59 = .ok (.iand, 1) := by decide +kernel
theorem dX0_takeLetters_60 : decode cX0_takeLetters 60 = .ok (.putfield 22, 3) := by decide +kernel
theorem dX0_takeLetters_63 : decode cX0_takeLetters 63 = .ok (.iinc 3 1, 3) := by decide +kernel
theorem dX0_takeLetters_66 : decode cX0_takeLetters 66 = .ok (.goto (-64), 3) := by decide +kernel
theorem dX0_takeLetters_69 : decode cX0_takeLetters 69 = .ok (.return_, 1) := by decide +kernel
theorem dX0_act_0 : decode cX0_act 0 = .ok (.iload_n 1, 1) := by decide +kernel
theorem dX0_act_1 : decode cX0_act 1 = .ok (.bipush 10, 2) := by decide +kernel
theorem dX0_act_3 : decode cX0_act 3 = .ok (.if_icmp .ge 19, 3) := by decide +kernel
theorem dX0_act_6 : decode cX0_act 6 = .ok (.aload_n 0, 1) := by decide +kernel
theorem dX0_act_7 : decode cX0_act 7 = .ok (.getfield 12, 3) := by decide +kernel
theorem dX0_act_10 : decode cX0_act 10 = .ok (.dup, 1) := by decide +kernel
theorem dX0_act_11 : decode cX0_act 11 = .ok (.getfield 90, 3) := by decide +kernel
theorem dX0_act_14 : decode cX0_act 14 = .ok (.iconst 1, 1) := by decide +kernel
theorem dX0_act_15 : decode cX0_act 15 = .ok (.iload_n 1, 1) := by decide +kernel
theorem dX0_act_16 : decode cX0_act 16 = .ok (.ishl, 1) := by decide +kernel
theorem dX0_act_17 : decode cX0_act 17 = .ok (.ior, 1) := by decide +kernel
theorem dX0_act_18 : decode cX0_act 18 = .ok (.putfield 90, 3) := by decide +kernel
theorem dX0_act_21 : decode cX0_act 21 = .ok (.return_, 1) := by decide +kernel
theorem dX0_act_22 : decode cX0_act 22 = .ok (.iconst 1, 1) := by decide +kernel
theorem dX0_act_23 : decode cX0_act 23 = .ok (.iload_n 1, 1) := by decide +kernel
theorem dX0_act_24 : decode cX0_act 24 = .ok (.bipush 10, 2) := by decide +kernel
theorem dX0_act_26 : decode cX0_act 26 = .ok (.isub, 1) := by decide +kernel
theorem dX0_act_27 : decode cX0_act 27 = .ok (.ishl, 1) := by decide +kernel
theorem dX0_act_28 : decode cX0_act 28 = .ok (.istore_n 2, 1) := by decide +kernel
theorem dX0_act_29 : decode cX0_act 29 = .ok (.aload_n 0, 1) := by decide +kernel
theorem dX0_act_30 : decode cX0_act 30 = .ok (.getfield 12, 3) := by decide +kernel
theorem dX0_act_33 : decode cX0_act 33 = .ok (.dup, 1) := by decide +kernel
theorem dX0_act_34 : decode cX0_act 34 = .ok (.getfield 93, 3) := by decide +kernel
theorem dX0_act_37 : decode cX0_act 37 = .ok (.iload_n 2, 1) := by decide +kernel
theorem dX0_act_38 : decode cX0_act 38 = .ok (.ior, 1) := by decide +kernel
theorem dX0_act_39 : decode cX0_act 39 = .ok (.putfield 93, 3) := by decide +kernel
theorem dX0_act_42 : decode cX0_act 42 = .ok (.aload_n 0, 1) := by decide +kernel
theorem dX0_act_43 : decode cX0_act 43 = .ok (.getfield 29, 3) := by decide +kernel
theorem dX0_act_46 : decode cX0_act 46 = .ok (.iconst 1, 1) := by decide +kernel
theorem dX0_act_47 : decode cX0_act 47 = .ok (.if_icmp .eq 18, 3) := by decide +kernel
theorem dX0_act_50 : decode cX0_act 50 = .ok (.aload_n 0, 1) := by decide +kernel
theorem dX0_act_51 : decode cX0_act 51 = .ok (.getfield 12, 3) := by decide +kernel
theorem dX0_act_54 : decode cX0_act 54 = .ok (.dup, 1) := by decide +kernel
theorem dX0_act_55 : decode cX0_act 55 = .ok (.getfield 96, 3) := by decide +kernel
theorem dX0_act_58 : decode cX0_act 58 = .ok (.iload_n 2, 1) := by decide +kernel
theorem dX0_act_59 : decode cX0_act 59 = .ok (.iconst (-1), 1) := by decide +kernel
theorem dX0_act_60 : decode cX0_act 60 = .ok (.ixor, 1) := by decide +kernel
theorem dX0_act_61 : decode cX0_act 61 = .ok (.iand, 1) := by decide +kernel
theorem dX0_act_62 : decode cX0_act 62 = .ok (.putfield 96, 3) := by decide +kernel
theorem dX0_act_65 : decode cX0_act 65 = .ok (.return_, 1) := by decide +kernel
set_option maxRecDepth 20000 in
theorem dX0_isStepOver_0 : decode cX0_isStepOver 0 = .ok (.aload_n 0, 1) := by decide +kernel
theorem dX0_isStepOver_1 : decode cX0_isStepOver 1 = .ok (.getfield 29, 3) := by decide +kernel
theorem dX0_isStepOver_4 : decode cX0_isStepOver 4 = .ok (.iconst 3, 1) := by decide +kernel
theorem dX0_isStepOver_5 : decode cX0_isStepOver 5 = .ok (.if_icmp .ne 19, 3) := by decide +kernel
theorem dX0_isStepOver_8 : decode cX0_isStepOver 8 = .ok (.iload_n 1, 1) := by decide +kernel
theorem dX0_isStepOver_9 : decode cX0_isStepOver 9 = .ok (.aload_n 0, 1) := by decide +kernel
theorem dX0_isStepOver_10 : decode cX0_isStepOver 10 = .ok (.iload_n 2, 1) := by decide +kernel
theorem dX0_isStepOver_11 : decode cX0_isStepOver 11 = .ok (.iload_n 3, 1) := by decide +kernel
theorem dX0_isStepOver_12 : decode cX0_isStepOver 12 = .ok (.invokevirtual 99, 3) := by decide +kernel
theorem dX0_isStepOver_15 : decode cX0_isStepOver 15 = .ok (.if_icmp .lt 7, 3) := by decide +kernel
theorem dX0_isStepOver_18 : decode cX0_isStepOver 18 = .ok (.iconst 1, 1) := by decide +kernel
theorem dX0_isStepOver_19 : decode cX0_isStepOver 19 = .ok (.goto 4, 3) := by decide +kernel
theorem dX0_isStepOver_22 : decode cX0_isStepOver 22 = .ok (.iconst 0, 1) := by decide +kernel
theorem dX0_isStepOver_23 : decode cX0_isStepOver 23 = .ok (.ireturn, 1) := by decide +kernel
theorem dX0_isStepOver_24 : decode cX0_isStepOver 24 = .ok (.aload_n 0, 1) := by decide +kernel
theorem dX0_isStepOver_25 : decode cX0_isStepOver 25 = .ok (.invokevirtual 102, 3) := by decide +kernel
theorem dX0_isStepOver_28 : decode cX0_isStepOver 28 = .ok (.ifCond .eq 14, 3) := by decide +kernel
theorem dX0_isStepOver_31 : decode cX0_isStepOver 31 = .ok (.aload_n 0, 1) := by decide +kernel
theorem dX0_isStepOver_32 : decode cX0_isStepOver 32 = .ok (.getfield 22, 3) := by decide +kernel
theorem dX0_isStepOver_35 : decode cX0_isStepOver 35 = .ok (.ifCond .ne 7, 3) := by decide +kernel
theorem dX0_isStepOver_38 : decode cX0_isStepOver 38 = .ok (.iconst 1, 1) := by decide +kernel
theorem dX0_isStepOver_39 : decode cX0_isStepOver 39 = .ok (.goto 4, 3) := by decide +kernel
theorem dX0_isStepOver_42 : decode cX0_isStepOver 42 = .ok (.iconst 0, 1) := by decide +kernel
theorem dX0_isStepOver_43 : decode cX0_isStepOver 43 = .ok (.ireturn, 1) := by decide +kernel
theorem dX0_endOfWait_0 : decode cX0_endOfWait 0 = .ok (.aload_n 0, 1) := by decide +kernel
theorem dX0_endOfWait_1 : decode cX0_endOfWait 1 = .ok (.getfield 38, 3) := by decide +kernel
theorem dX0_endOfWait_4 : decode cX0_endOfWait 4 = .ok (.iload_n 1, 1) := by decide +kernel
theorem dX0_endOfWait_5 : decode cX0_endOfWait 5 = .ok (.iadd, 1) := by decide +kernel
theorem dX0_endOfWait_6 : decode cX0_endOfWait 6 = .ok (.aload_n 0, 1) := by decide +kernel
theorem dX0_endOfWait_7 : decode cX0_endOfWait 7 = .ok (.getfield 32, 3) := by decide +kernel
theorem dX0_endOfWait_10 : decode cX0_endOfWait 10 = .ok (.iload_n 2, 1) := by decide +kernel
theorem dX0_endOfWait_11 : decode cX0_endOfWait 11 = .ok (.iadd, 1) := by decide +kernel
theorem dX0_endOfWait_12 : decode cX0_endOfWait 12 = .ok (.invokestatic 106, 3) := by decide +kernel
theorem dX0_endOfWait_15 : decode cX0_endOfWait 15 = .ok (.ireturn, 1) := by decide +kernel
theorem dX0_followingStep_0 : decode cX0_followingStep 0 = .ok (.aload_n 0, 1) := by decide +kernel
theorem dX0_followingStep_1 : decode cX0_followingStep 1 = .ok (.getfield 29, 3) := by decide +kernel
theorem dX0_followingStep_4 : decode cX0_followingStep 4 = .ok (.tableswitch 79 1 5 #[36, 49, 62, 64, 77], 36) := by decide +kernel
theorem dX0_followingStep_40 : decode cX0_followingStep 40 = .ok (.aload_n 0, 1) := by decide +kernel
theorem dX0_followingStep_41 : decode cX0_followingStep 41 = .ok (.getfield 41, 3) := by decide +kernel
theorem dX0_followingStep_44 : decode cX0_followingStep 44 = .ok (.ifCond .eq 7, 3) := by decide +kernel
theorem dX0_followingStep_47 : decode cX0_followingStep 47 = .ok (.iconst 4, 1) := by decide +kernel
theorem dX0_followingStep_48 : decode cX0_followingStep 48 = .ok (.goto 4, 3) := by decide +kernel
theorem dX0_followingStep_51 : decode cX0_followingStep 51 = .ok (.iconst 2, 1) := by decide +kernel
theorem dX0_followingStep_52 : decode cX0_followingStep 52 = .ok (.ireturn, 1) := by decide +kernel
theorem dX0_followingStep_53 : decode cX0_followingStep 53 = .ok (.aload_n 0, 1) := by decide +kernel
theorem dX0_followingStep_54 : decode cX0_followingStep 54 = .ok (.getfield 41, 3) := by decide +kernel
theorem dX0_followingStep_57 : decode cX0_followingStep 57 = .ok (.ifCond .eq 7, 3) := by decide +kernel
theorem dX0_followingStep_60 : decode cX0_followingStep 60 = .ok (.iconst 0, 1) := by decide +kernel
theorem dX0_followingStep_61 : decode cX0_followingStep 61 = .ok (.goto 4, 3) := by decide +kernel
theorem dX0_followingStep_64 : decode cX0_followingStep 64 = .ok (.iconst 3, 1) := by decide +kernel
theorem dX0_followingStep_65 : decode cX0_followingStep 65 = .ok (.ireturn, 1) := by decide +kernel
theorem dX0_followingStep_66 : decode cX0_followingStep 66 = .ok (.iconst 4, 1) := by decide +kernel
theorem dX0_followingStep_67 : decode cX0_followingStep 67 = .ok (.ireturn, 1) := by decide +kernel
theorem dX0_followingStep_68 : decode cX0_followingStep 68 = .ok (.aload_n 0, 1) := by decide +kernel
theorem dX0_followingStep_69 : decode cX0_followingStep 69 = .ok (.getfield 41, 3) := by decide +kernel
theorem dX0_followingStep_72 : decode cX0_followingStep 72 = .ok (.ifCond .eq 7, 3) := by decide +kernel
theorem dX0_followingStep_75 : decode cX0_followingStep 75 = .ok (.iconst 2, 1) := by decide +kernel
theorem dX0_followingStep_76 : decode cX0_followingStep 76 = .ok (.goto 4, 3) := by decide +kernel
theorem dX0_followingStep_79 : decode cX0_followingStep 79 = .ok (.iconst 0, 1) := by decide +kernel
theorem dX0_followingStep_80 : decode cX0_followingStep 80 = .ok (.ireturn, 1) := by decide +kernel
theorem dX0_followingStep_81 : decode cX0_followingStep 81 = .ok (.iconst 2, 1) := by decide +kernel
theorem dX0_followingStep_82 : decode cX0_followingStep 82 = .ok (.ireturn, 1) := by decide +kernel
theorem dX0_followingStep_83 : decode cX0_followingStep 83 = .ok (.iconst 0, 1) := by decide +kernel
theorem dX0_followingStep_84 : decode cX0_followingStep 84 = .ok (.ireturn, 1) := by decide +kernel
set_option maxRecDepth 20000 in
theorem dX0_nextLetter_0 : decode cX0_nextLetter 0 = .ok (.iload_n 1, 1) := by decide +kernel
theorem dX0_nextLetter_1 : decode cX0_nextLetter 1 = .ok (.istore_n 3, 1) := by decide +kernel
theorem dX0_nextLetter_2 : decode cX0_nextLetter 2 = .ok (.iconst 0, 1) := by decide +kernel
theorem dX0_nextLetter_3 : decode cX0_nextLetter 3 = .ok (.istore 4, 2) := by decide +kernel
theorem dX0_nextLetter_5 : decode cX0_nextLetter 5 = .ok (.iload 4, 2) := by decide +kernel
theorem dX0_nextLetter_7 : decode cX0_nextLetter 7 = .ok (.bipush 16, 2) := by decide +kernel
theorem dX0_nextLetter_9 : decode cX0_nextLetter 9 = .ok (.if_icmp .ge 49, 3) := by decide +kernel
theorem dX0_nextLetter_12 : decode cX0_nextLetter 12 = .ok (.aload_n 0, 1) := by decide +kernel
theorem dX0_nextLetter_13 : decode cX0_nextLetter 13 = .ok (.getfield 22, 3) := by decide +kernel
theorem dX0_nextLetter_16 : decode cX0_nextLetter 16 = .ok (.ifCond .eq 42, 3) := by decide +kernel
theorem dX0_nextLetter_19 : decode cX0_nextLetter 19 = .ok (.aload_n 0, 1) := by decide +kernel
theorem dX0_nextLetter_20 : decode cX0_nextLetter 20 = .ok (.getfield 22, 3) := by decide +kernel
theorem dX0_nextLetter_23 : decode cX0_nextLetter 23 = .ok (.iload 4, 2) := by decide +kernel
theorem dX0_nextLetter_25 : decode cX0_nextLetter 25 = .ok (.invokestatic 67, 3) := by decide +kernel
theorem dX0_nextLetter_28 : decode cX0_nextLetter 28 = .ok (.ifCond .eq 24, 3) := by decide +kernel
theorem dX0_nextLetter_31 : decode cX0_nextLetter 31 = .ok (.aload_n 2, 1) := by decide +kernel
theorem dX0_nextLetter_32 : decode cX0_nextLetter 32 = .ok (.iload 4, 2) := by decide +kernel
theorem dX0_nextLetter_34 : decode cX0_nextLetter 34 = .ok (.invokevirtual 82, 3) := by decide +kernel
theorem dX0_nextLetter_37 : decode cX0_nextLetter 37 = .ok (.ifCond .ne 15, 3) := by decide +kernel
theorem dX0_nextLetter_40 : decode cX0_nextLetter 40 = .ok (.iload_n 3, 1) := by decide +kernel
theorem dX0_nextLetter_41 : decode cX0_nextLetter 41 = .ok (.aload_n 0, 1) := by decide +kernel
theorem dX0_nextLetter_42 : decode cX0_nextLetter 42 = .ok (.getfield 18, 3) := by decide +kernel
theorem dX0_nextLetter_45 : decode cX0_nextLetter 45 = .ok (.iload 4, 2) := by decide +kernel
theorem dX0_nextLetter_47 : decode cX0_nextLetter 47 = .ok (.iaload, 1) := by decide +kernel
theorem dX0_nextLetter_48 : decode cX0_nextLetter 48 = .ok (.invokestatic 106, 3) := by decide +kernel
theorem dX0_nextLetter_51 : decode cX0_nextLetter 51 = .ok (.istore_n 3, 1) := by decide +kernel
theorem dX0_nextLetter_52 : decode cX0_nextLetter 52 = .ok (.iinc 4 1, 3) := by decide +kernel
theorem dX0_nextLetter_55 : decode cX0_nextLetter 55 = .ok (.goto (-50), 3) := by decide +kernel
theorem dX0_nextLetter_58 : decode cX0_nextLetter 58 = .ok (.iload_n 3, 1) := by decide +kernel
theorem dX0_nextLetter_59 : decode cX0_nextLetter 59 = .ok (.ireturn, 1) := by decide +kernel
set_option maxRecDepth 20000 in
theorem dX0_nextStepEnd_0 : decode cX0_nextStepEnd 0 = .ok (.aload_n 0, 1) := by decide +kernel
theorem dX0_nextStepEnd_1 : decode cX0_nextStepEnd 1 = .ok (.getfield 29, 3) := by decide +kernel
theorem dX0_nextStepEnd_4 : decode cX0_nextStepEnd 4 = .ok (.iconst 3, 1) := by decide +kernel
theorem dX0_nextStepEnd_5 : decode cX0_nextStepEnd 5 = .ok (.if_icmp .ne 11, 3) := by decide +kernel
theorem dX0_nextStepEnd_8 : decode cX0_nextStepEnd 8 = .ok (.aload_n 0, 1) := by decide +kernel
theorem dX0_nextStepEnd_9 : decode cX0_nextStepEnd 9 = .ok (.iload_n 3, 1) := by decide +kernel
theorem dX0_nextStepEnd_10 : decode cX0_nextStepEnd 10 = .ok (.iload 4, 2) := by decide +kernel
theorem dX0_nextStepEnd_12 : decode cX0_nextStepEnd 12 = .ok (.invokevirtual 99, 3) := by decide +kernel
theorem dX0_nextStepEnd_15 : decode cX0_nextStepEnd 15 = .ok (.ireturn, 1) := by decide +kernel
theorem dX0_nextStepEnd_16 : decode cX0_nextStepEnd 16 = .ok (.aload_n 0, 1) := by decide +kernel
theorem dX0_nextStepEnd_17 : decode cX0_nextStepEnd 17 = .ok (.iload_n 2, 1) := by decide +kernel
theorem dX0_nextStepEnd_18 : decode cX0_nextStepEnd 18 = .ok (.iload_n 3, 1) := by decide +kernel
theorem dX0_nextStepEnd_19 : decode cX0_nextStepEnd 19 = .ok (.iload 4, 2) := by decide +kernel
theorem dX0_nextStepEnd_21 : decode cX0_nextStepEnd 21 = .ok (.invokevirtual 109, 3) := by decide +kernel
theorem dX0_nextStepEnd_24 : decode cX0_nextStepEnd 24 = .ok (.ifCond .eq 7, 3) := by decide +kernel
theorem dX0_nextStepEnd_27 : decode cX0_nextStepEnd 27 = .ok (.iload_n 2, 1) := by decide +kernel
theorem dX0_nextStepEnd_28 : decode cX0_nextStepEnd 28 = .ok (.goto 4, 3) := by decide +kernel
theorem dX0_nextStepEnd_31 : decode cX0_nextStepEnd 31 = .ok (.iload_n 1, 1) := by decide +kernel
theorem dX0_nextStepEnd_32 : decode cX0_nextStepEnd 32 = .ok (.ireturn, 1) := by decide +kernel
set_option maxRecDepth 20000 in
theorem dX0_notePass_0 : decode cX0_notePass 0 = .ok (.aload_n 0, 1) := by decide +kernel
theorem dX0_notePass_1 : decode cX0_notePass 1 = .ok (.invokevirtual 102, 3) := by decide +kernel
theorem dX0_notePass_4 : decode cX0_notePass 4 = .ok (.ifCond .eq 31, 3) := by decide +kernel
theorem dX0_notePass_7 : decode cX0_notePass 7 = .ok (.iload_n 2, 1) := by decide +kernel
theorem dX0_notePass_8 : decode cX0_notePass 8 = .ok (.aload_n 0, 1) := by decide +kernel
theorem dX0_notePass_9 : decode cX0_notePass 9 = .ok (.getfield 12, 3) := by decide +kernel
theorem dX0_notePass_12 : decode cX0_notePass 12 = .ok (.getfield 113, 3) := by decide +kernel
theorem dX0_notePass_15 : decode cX0_notePass 15 = .ok (.if_icmp .ge 20, 3) := by decide +kernel
theorem dX0_notePass_18 : decode cX0_notePass 18 = .ok (.aload_n 0, 1) := by decide +kernel
theorem dX0_notePass_19 : decode cX0_notePass 19 = .ok (.dup, 1) := by decide +kernel
theorem dX0_notePass_20 : decode cX0_notePass 20 = .ok (.getfield 35, 3) := by decide +kernel
theorem dX0_notePass_23 : decode cX0_notePass 23 = .ok (.iconst 1, 1) := by decide +kernel
theorem dX0_notePass_24 : decode cX0_notePass 24 = .ok (.iload_n 1, 1) := by decide +kernel
theorem dX0_notePass_25 : decode cX0_notePass 25 = .ok (.ishl, 1) := by decide +kernel
theorem dX0_notePass_26 : decode cX0_notePass 26 = .ok (.ior, 1) := by decide +kernel
theorem dX0_notePass_27 : decode cX0_notePass 27 = .ok (.putfield 35, 3) := by decide +kernel
theorem dX0_notePass_30 : decode cX0_notePass 30 = .ok (.aload_n 0, 1) := by decide +kernel
theorem dX0_notePass_31 : decode cX0_notePass 31 = .ok (.iload_n 3, 1) := by decide +kernel
theorem dX0_notePass_32 : decode cX0_notePass 32 = .ok (.putfield 38, 3) := by decide +kernel
theorem dX0_notePass_35 : decode cX0_notePass 35 = .ok (.return_, 1) := by decide +kernel
theorem dX1_init_0 : decode cX1_init 0 = .ok (.aload_n 0, 1) := by decide +kernel
theorem dX1_init_1 : decode cX1_init 1 = .ok (.invokespecial 3, 3) := by decide +kernel
theorem dX1_init_4 : decode cX1_init 4 = .ok (.aload_n 0, 1) := by decide +kernel
theorem dX1_init_5 : decode cX1_init 5 = .ok (.sipush 2500, 3) := by decide +kernel
theorem dX1_init_8 : decode cX1_init 8 = .ok (.newarray .int, 2) := by decide +kernel
theorem dX1_init_10 : decode cX1_init 10 = .ok (.putfield 11, 3) := by decide +kernel
theorem dX1_init_13 : decode cX1_init 13 = .ok (.aload_n 0, 1) := by decide +kernel
theorem dX1_init_14 : decode cX1_init 14 = .ok (.iconst 0, 1) := by decide +kernel
theorem dX1_init_15 : decode cX1_init 15 = .ok (.putfield 15, 3) := by decide +kernel
theorem dX1_init_18 : decode cX1_init 18 = .ok (.return_, 1) := by decide +kernel
theorem dX1_isKept_0 : decode cX1_isKept 0 = .ok (.iload_n 1, 1) := by decide +kernel
theorem dX1_isKept_1 : decode cX1_isKept 1 = .ok (.ifCond .lt 22, 3) := by decide +kernel
theorem dX1_isKept_4 : decode cX1_isKept 4 = .ok (.iload_n 1, 1) := by decide +kernel
theorem dX1_isKept_5 : decode cX1_isKept 5 = .ok (.aload_n 0, 1) := by decide +kernel
theorem dX1_isKept_6 : decode cX1_isKept 6 = .ok (.getfield 15, 3) := by decide +kernel
theorem dX1_isKept_9 : decode cX1_isKept 9 = .ok (.if_icmp .ge 14, 3) := by decide +kernel
theorem dX1_isKept_12 : decode cX1_isKept 12 = .ok (.iload_n 1, 1) := by decide +kernel
theorem dX1_isKept_13 : decode cX1_isKept 13 = .ok (.sipush 500, 3) := by decide +kernel
theorem dX1_isKept_16 : decode cX1_isKept 16 = .ok (.if_icmp .ge 7, 3) := by decide +kernel
theorem dX1_isKept_19 : decode cX1_isKept 19 = .ok (.iconst 1, 1) := by decide +kernel
theorem dX1_isKept_20 : decode cX1_isKept 20 = .ok (.goto 4, 3) := by decide +kernel
theorem dX1_isKept_23 : decode cX1_isKept 23 = .ok (.iconst 0, 1) := by decide +kernel
theorem dX1_isKept_24 : decode cX1_isKept 24 = .ok (.ireturn, 1) := by decide +kernel
set_option maxRecDepth 20000 in
theorem dX1_add_0 : decode cX1_add 0 = .ok (.aload_n 0, 1) := by decide +kernel
theorem dX1_add_1 : decode cX1_add 1 = .ok (.getfield 15, 3) := by decide +kernel
theorem dX1_add_4 : decode cX1_add 4 = .ok (.istore 5, 2) := by decide +kernel
theorem dX1_add_6 : decode cX1_add 6 = .ok (.aload_n 0, 1) := by decide +kernel
theorem dX1_add_7 : decode cX1_add 7 = .ok (.dup, 1) := by decide +kernel
theorem dX1_add_8 : decode cX1_add 8 = .ok (.getfield 15, 3) := by decide +kernel
theorem dX1_add_11 : decode cX1_add 11 = .ok (.iconst 1, 1) := by decide +kernel
theorem dX1_add_12 : decode cX1_add 12 = .ok (.iadd, 1) := by decide +kernel
theorem dX1_add_13 : decode cX1_add 13 = .ok (.putfield 15, 3) := by decide +kernel
theorem dX1_add_16 : decode cX1_add 16 = .ok (.aload_n 0, 1) := by decide +kernel
theorem dX1_add_17 : decode cX1_add 17 = .ok (.iload 5, 2) := by decide +kernel
theorem dX1_add_19 : decode cX1_add 19 = .ok (.invokevirtual 19, 3) := by decide +kernel
theorem dX1_add_22 : decode cX1_add 22 = .ok (.ifCond .eq 68, 3) := by decide +kernel
theorem dX1_add_25 : decode cX1_add 25 = .ok (.iload 5, 2) := by decide +kernel
theorem dX1_add_27 : decode cX1_add 27 = .ok (.iconst 5, 1) := by decide +kernel
theorem dX1_add_28 : decode cX1_add 28 = .ok (.imul, 1) := by decide +kernel
theorem dX1_add_29 : decode cX1_add 29 = .ok (.istore 6, 2) := by decide +kernel
theorem dX1_add_31 : decode cX1_add 31 = .ok (.aload_n 0, 1) := by decide +kernel
theorem dX1_add_32 : decode cX1_add 32 = .ok (.getfield 11, 3) := by decide +kernel
theorem dX1_add_35 : decode cX1_add 35 = .ok (.iload 6, 2) := by decide +kernel
theorem dX1_add_37 : decode cX1_add 37 = .ok (.iconst 0, 1) := by decide +kernel
theorem dX1_add_38 : decode cX1_add 38 = .ok (.iadd, 1) := by decide +kernel
theorem dX1_add_39 : decode cX1_add 39 = .ok (.iload_n 1, 1) := by decide +kernel
theorem dX1_add_40 : decode cX1_add 40 = .ok (.iastore, 1) := by decide +kernel
theorem dX1_add_41 : decode cX1_add 41 = .ok (.aload_n 0, 1) := by decide +kernel
theorem dX1_add_42 : decode cX1_add 42 = .ok (.getfield 11, 3) := by decide +kernel
theorem dX1_add_45 : decode cX1_add 45 = .ok (.iload 6, 2) := by decide +kernel
theorem dX1_add_47 : decode cX1_add 47 = .ok (.iconst 1, 1) := by decide +kernel
theorem dX1_add_48 : decode cX1_add 48 = .ok (.iadd, 1) := by decide +kernel
theorem dX1_add_49 : decode cX1_add 49 = .ok (.iload_n 2, 1) := by decide +kernel
theorem dX1_add_50 : decode cX1_add 50 = .ok (.iastore, 1) := by decide +kernel
theorem dX1_add_51 : decode cX1_add 51 = .ok (.aload_n 0, 1) := by decide +kernel
theorem dX1_add_52 : decode cX1_add 52 = .ok (.getfield 11, 3) := by decide +kernel
theorem dX1_add_55 : decode cX1_add 55 = .ok (.iload 6, 2) := by decide +kernel
theorem dX1_add_57 : decode cX1_add 57 = .ok (.iconst 2, 1) := by decide +kernel
theorem dX1_add_58 : decode cX1_add 58 = .ok (.iadd, 1) := by decide +kernel
theorem dX1_add_59 : decode cX1_add 59 = .ok (.iload_n 3, 1) := by decide +kernel
theorem dX1_add_60 : decode cX1_add 60 = .ok (.iastore, 1) := by decide +kernel
theorem dX1_add_61 : decode cX1_add 61 = .ok (.aload_n 0, 1) := by decide +kernel
theorem dX1_add_62 : decode cX1_add 62 = .ok (.getfield 11, 3) := by decide +kernel
theorem dX1_add_65 : decode cX1_add 65 = .ok (.iload 6, 2) := by decide +kernel
theorem dX1_add_67 : decode cX1_add 67 = .ok (.iconst 3, 1) := by decide +kernel
theorem dX1_add_68 : decode cX1_add 68 = .ok (.iadd, 1) := by decide +kernel
theorem dX1_add_69 : decode cX1_add 69 = .ok (.iconst (-1), 1) := by decide +kernel
theorem dX1_add_70 : decode cX1_add 70 = .ok (.iastore, 1) := by decide +kernel
theorem dX1_add_71 : decode cX1_add 71 = .ok (.aload_n 0, 1) := by decide +kernel
theorem dX1_add_72 : decode cX1_add 72 = .ok (.getfield 11, 3) := by decide +kernel
theorem dX1_add_75 : decode cX1_add 75 = .ok (.iload 6, 2) := by decide +kernel
theorem dX1_add_77 : decode cX1_add 77 = .ok (.iconst 4, 1) := by decide +kernel
theorem dX1_add_78 : decode cX1_add 78 = .ok (.iadd, 1) := by decide +kernel
theorem dX1_add_79 : decode cX1_add 79 = .ok (.iload 4, 2) := by decide +kernel
theorem dX1_add_81 : decode cX1_add 81 = .ok (.ifCond .eq 7, 3) := by decide +kernel
theorem dX1_add_84 : decode cX1_add 84 = .ok (.iconst 1, 1) := by decide +kernel
theorem dX1_add_85 : decode cX1_add 85 = .ok (.goto 4, 3) := by decide +kernel
theorem dX1_add_88 : decode cX1_add 88 = .ok (.iconst 0, 1) := by decide +kernel
theorem dX1_add_89 : decode cX1_add 89 = .ok (.iastore, 1) := by decide +kernel
theorem dX1_add_90 : decode cX1_add 90 = .ok (.iload 5, 2) := by decide +kernel
theorem dX1_add_92 : decode cX1_add 92 = .ok (.ireturn, 1) := by decide +kernel
set_option maxRecDepth 20000 in
theorem dX1_markOver_0 : decode cX1_markOver 0 = .ok (.aload_n 0, 1) := by decide +kernel
theorem dX1_markOver_1 : decode cX1_markOver 1 = .ok (.iload_n 1, 1) := by decide +kernel
theorem dX1_markOver_2 : decode cX1_markOver 2 = .ok (.invokevirtual 19, 3) := by decide +kernel
theorem dX1_markOver_5 : decode cX1_markOver 5 = .ok (.ifCond .eq 14, 3) := by decide +kernel
theorem dX1_markOver_8 : decode cX1_markOver 8 = .ok (.aload_n 0, 1) := by decide +kernel
theorem dX1_markOver_9 : decode cX1_markOver 9 = .ok (.getfield 11, 3) := by decide +kernel
theorem dX1_markOver_12 : decode cX1_markOver 12 = .ok (.iload_n 1, 1) := by decide +kernel
theorem dX1_markOver_13 : decode cX1_markOver 13 = .ok (.iconst 5, 1) := by decide +kernel
theorem dX1_markOver_14 : decode cX1_markOver 14 = .ok (.imul, 1) := by decide +kernel
theorem dX1_markOver_15 : decode cX1_markOver 15 = .ok (.iconst 3, 1) := by decide +kernel
theorem dX1_markOver_16 : decode cX1_markOver 16 = .ok (.iadd, 1) := by decide +kernel
theorem dX1_markOver_17 : decode cX1_markOver 17 = .ok (.iload_n 2, 1) := by decide +kernel
theorem dX1_markOver_18 : decode cX1_markOver 18 = .ok (.iastore, 1) := by decide +kernel
theorem dX1_markOver_19 : decode cX1_markOver 19 = .ok (.return_, 1) := by decide +kernel
set_option maxRecDepth 20000 in
theorem dX1_markStolen_0 : decode cX1_markStolen 0 = .ok (.aload_n 0, 1) := by decide +kernel
theorem dX1_markStolen_1 : decode cX1_markStolen 1 = .ok (.iload_n 1, 1) := by decide +kernel
theorem dX1_markStolen_2 : decode cX1_markStolen 2 = .ok (.invokevirtual 19, 3) := by decide +kernel
theorem dX1_markStolen_5 : decode cX1_markStolen 5 = .ok (.ifCond .eq 14, 3) := by decide +kernel
theorem dX1_markStolen_8 : decode cX1_markStolen 8 = .ok (.aload_n 0, 1) := by decide +kernel
theorem dX1_markStolen_9 : decode cX1_markStolen 9 = .ok (.getfield 11, 3) := by decide +kernel
theorem dX1_markStolen_12 : decode cX1_markStolen 12 = .ok (.iload_n 1, 1) := by decide +kernel
theorem dX1_markStolen_13 : decode cX1_markStolen 13 = .ok (.iconst 5, 1) := by decide +kernel
theorem dX1_markStolen_14 : decode cX1_markStolen 14 = .ok (.imul, 1) := by decide +kernel
theorem dX1_markStolen_15 : decode cX1_markStolen 15 = .ok (.iconst 4, 1) := by decide +kernel
theorem dX1_markStolen_16 : decode cX1_markStolen 16 = .ok (.iadd, 1) := by decide +kernel
theorem dX1_markStolen_17 : decode cX1_markStolen 17 = .ok (.iconst 1, 1) := by decide +kernel
theorem dX1_markStolen_18 : decode cX1_markStolen 18 = .ok (.iastore, 1) := by decide +kernel
theorem dX1_markStolen_19 : decode cX1_markStolen 19 = .ok (.return_, 1) := by decide +kernel
theorem dX2_init_0 : decode cX2_init 0 = .ok (.aload_n 0, 1) := by decide +kernel
theorem dX2_init_1 : decode cX2_init 1 = .ok (.invokespecial 3, 3) := by decide +kernel
theorem dX2_init_4 : decode cX2_init 4 = .ok (.aload_n 0, 1) := by decide +kernel
theorem dX2_init_5 : decode cX2_init 5 = .ok (.bipush 16, 2) := by decide +kernel
theorem dX2_init_7 : decode cX2_init 7 = .ok (.newarray .int, 2) := by decide +kernel
theorem dX2_init_9 : decode cX2_init 9 = .ok (.putfield 9, 3) := by decide +kernel
theorem dX2_init_12 : decode cX2_init 12 = .ok (.aload_n 0, 1) := by decide +kernel
theorem dX2_init_13 : decode cX2_init 13 = .ok (.iconst 0, 1) := by decide +kernel
theorem dX2_init_14 : decode cX2_init 14 = .ok (.putfield 15, 3) := by decide +kernel
theorem dX2_init_17 : decode cX2_init 17 = .ok (.iconst 0, 1) := by decide +kernel
theorem dX2_init_18 : decode cX2_init 18 = .ok (.istore_n 1, 1) := by decide +kernel
theorem dX2_init_19 : decode cX2_init 19 = .ok (.iload_n 1, 1) := by decide +kernel
theorem dX2_init_20 : decode cX2_init 20 = .ok (.bipush 16, 2) := by decide +kernel
theorem dX2_init_22 : decode cX2_init 22 = .ok (.if_icmp .ge 16, 3) := by decide +kernel
theorem dX2_init_25 : decode cX2_init 25 = .ok (.aload_n 0, 1) := by decide +kernel
theorem dX2_init_26 : decode cX2_init 26 = .ok (.getfield 9, 3) := by decide +kernel
theorem dX2_init_29 : decode cX2_init 29 = .ok (.iload_n 1, 1) := by decide +kernel
theorem dX2_init_30 : decode cX2_init 30 = .ok (.iconst 1, 1) := by decide +kernel
theorem dX2_init_31 : decode cX2_init 31 = .ok (.iastore, 1) := by decide +kernel
theorem dX2_init_32 : decode cX2_init 32 = .ok (.iinc 1 1, 3) := by decide +kernel
theorem dX2_init_35 : decode cX2_init 35 = .ok (.goto (-16), 3) := by decide +kernel
theorem dX2_init_38 : decode cX2_init 38 = .ok (.return_, 1) := by decide +kernel
theorem dX2_isDown_0 : decode cX2_isDown 0 = .ok (.iload_n 1, 1) := by decide +kernel
theorem dX2_isDown_1 : decode cX2_isDown 1 = .ok (.ifCond .lt 24, 3) := by decide +kernel
theorem dX2_isDown_4 : decode cX2_isDown 4 = .ok (.iload_n 1, 1) := by decide +kernel
theorem dX2_isDown_5 : decode cX2_isDown 5 = .ok (.bipush 16, 2) := by decide +kernel
theorem dX2_isDown_7 : decode cX2_isDown 7 = .ok (.if_icmp .gt 18, 3) := by decide +kernel
theorem dX2_isDown_10 : decode cX2_isDown 10 = .ok (.aload_n 0, 1) := by decide +kernel
theorem dX2_isDown_11 : decode cX2_isDown 11 = .ok (.getfield 15, 3) := by decide +kernel
theorem dX2_isDown_14 : decode cX2_isDown 14 = .ok (.iload_n 1, 1) := by decide +kernel
theorem dX2_isDown_15 : decode cX2_isDown 15 = .ok (.ishr, 1) := by decide +kernel
theorem dX2_isDown_16 : decode cX2_isDown 16 = .ok (.iconst 1, 1) := by decide +kernel
theorem dX2_isDown_17 : decode cX2_isDown 17 = .ok (.iand, 1) := by decide +kernel
theorem dX2_isDown_18 : decode cX2_isDown 18 = .ok (.ifCond .eq 7, 3) := by decide +kernel
theorem dX2_isDown_21 : decode cX2_isDown 21 = .ok (.iconst 1, 1) := by decide +kernel
theorem dX2_isDown_22 : decode cX2_isDown 22 = .ok (.goto 4, 3) := by decide +kernel
theorem dX2_isDown_25 : decode cX2_isDown 25 = .ok (.iconst 0, 1) := by decide +kernel
theorem dX2_isDown_26 : decode cX2_isDown 26 = .ok (.ireturn, 1) := by decide +kernel
theorem dX3_init_0 : decode cX3_init 0 = .ok (.aload_n 0, 1) := by decide +kernel
theorem dX3_init_1 : decode cX3_init 1 = .ok (.invokespecial 3, 3) := by decide +kernel
theorem dX3_init_4 : decode cX3_init 4 = .ok (.aload_n 0, 1) := by decide +kernel
theorem dX3_init_5 : decode cX3_init 5 = .ok (.iconst 0, 1) := by decide +kernel
theorem dX3_init_6 : decode cX3_init 6 = .ok (.putfield 9, 3) := by decide +kernel
theorem dX3_init_9 : decode cX3_init 9 = .ok (.aload_n 0, 1) := by decide +kernel
theorem dX3_init_10 : decode cX3_init 10 = .ok (.iconst 0, 1) := by decide +kernel
theorem dX3_init_11 : decode cX3_init 11 = .ok (.putfield 15, 3) := by decide +kernel
theorem dX3_init_14 : decode cX3_init 14 = .ok (.aload_n 0, 1) := by decide +kernel
theorem dX3_init_15 : decode cX3_init 15 = .ok (.iconst 0, 1) := by decide +kernel
theorem dX3_init_16 : decode cX3_init 16 = .ok (.putfield 18, 3) := by decide +kernel
theorem dX3_init_19 : decode cX3_init 19 = .ok (.aload_n 0, 1) := by decide +kernel
theorem dX3_init_20 : decode cX3_init 20 = .ok (.iconst 0, 1) := by decide +kernel
theorem dX3_init_21 : decode cX3_init 21 = .ok (.putfield 21, 3) := by decide +kernel
theorem dX3_init_24 : decode cX3_init 24 = .ok (.aload_n 0, 1) := by decide +kernel
theorem dX3_init_25 : decode cX3_init 25 = .ok (.iconst 0, 1) := by decide +kernel
theorem dX3_init_26 : decode cX3_init 26 = .ok (.putfield 24, 3) := by decide +kernel
theorem dX3_init_29 : decode cX3_init 29 = .ok (.aload_n 0, 1) := by decide +kernel
theorem dX3_init_30 : decode cX3_init 30 = .ok (.iconst 0, 1) := by decide +kernel
theorem dX3_init_31 : decode cX3_init 31 = .ok (.putfield 27, 3) := by decide +kernel
theorem dX3_init_34 : decode cX3_init 34 = .ok (.aload_n 0, 1) := by decide +kernel
theorem dX3_init_35 : decode cX3_init 35 = .ok (.iconst 0, 1) := by decide +kernel
theorem dX3_init_36 : decode cX3_init 36 = .ok (.putfield 30, 3) := by decide +kernel
theorem dX3_init_39 : decode cX3_init 39 = .ok (.aload_n 0, 1) := by decide +kernel
theorem dX3_init_40 : decode cX3_init 40 = .ok (.iconst 0, 1) := by decide +kernel
theorem dX3_init_41 : decode cX3_init 41 = .ok (.putfield 33, 3) := by decide +kernel
theorem dX3_init_44 : decode cX3_init 44 = .ok (.aload_n 0, 1) := by decide +kernel
theorem dX3_init_45 : decode cX3_init 45 = .ok (.iconst 0, 1) := by decide +kernel
theorem dX3_init_46 : decode cX3_init 46 = .ok (.putfield 36, 3) := by decide +kernel
theorem dX3_init_49 : decode cX3_init 49 = .ok (.aload_n 0, 1) := by decide +kernel
theorem dX3_init_50 : decode cX3_init 50 = .ok (.iconst 0, 1) := by decide +kernel
theorem dX3_init_51 : decode cX3_init 51 = .ok (.putfield 39, 3) := by decide +kernel
theorem dX3_init_54 : decode cX3_init 54 = .ok (.return_, 1) := by decide +kernel
theorem dX3_open_0 : decode cX3_open 0 = .ok (.aload_n 0, 1) := by decide +kernel
theorem dX3_open_1 : decode cX3_open 1 = .ok (.iload_n 1, 1) := by decide +kernel
theorem dX3_open_2 : decode cX3_open 2 = .ok (.putfield 9, 3) := by decide +kernel
theorem dX3_open_5 : decode cX3_open 5 = .ok (.aload_n 0, 1) := by decide +kernel
theorem dX3_open_6 : decode cX3_open 6 = .ok (.iload_n 2, 1) := by decide +kernel
theorem dX3_open_7 : decode cX3_open 7 = .ok (.putfield 15, 3) := by decide +kernel
theorem dX3_open_10 : decode cX3_open 10 = .ok (.aload_n 0, 1) := by decide +kernel
theorem dX3_open_11 : decode cX3_open 11 = .ok (.iload_n 3, 1) := by decide +kernel
theorem dX3_open_12 : decode cX3_open 12 = .ok (.putfield 18, 3) := by decide +kernel
theorem dX3_open_15 : decode cX3_open 15 = .ok (.aload_n 0, 1) := by decide +kernel
theorem dX3_open_16 : decode cX3_open 16 = .ok (.iload 4, 2) := by decide +kernel
theorem dX3_open_18 : decode cX3_open 18 = .ok (.putfield 21, 3) := by decide +kernel
theorem dX3_open_21 : decode cX3_open 21 = .ok (.aload_n 0, 1) := by decide +kernel
theorem dX3_open_22 : decode cX3_open 22 = .ok (.iload 5, 2) := by decide +kernel
theorem dX3_open_24 : decode cX3_open 24 = .ok (.putfield 27, 3) := by decide +kernel
theorem dX3_open_27 : decode cX3_open 27 = .ok (.aload_n 0, 1) := by decide +kernel
theorem dX3_open_28 : decode cX3_open 28 = .ok (.iload_n 2, 1) := by decide +kernel
theorem dX3_open_29 : decode cX3_open 29 = .ok (.putfield 33, 3) := by decide +kernel
theorem dX3_open_32 : decode cX3_open 32 = .ok (.aload_n 0, 1) := by decide +kernel
theorem dX3_open_33 : decode cX3_open 33 = .ok (.iload_n 3, 1) := by decide +kernel
theorem dX3_open_34 : decode cX3_open 34 = .ok (.putfield 36, 3) := by decide +kernel
theorem dX3_open_37 : decode cX3_open 37 = .ok (.return_, 1) := by decide +kernel
theorem dX3_makeVersion_0 : decode cX3_makeVersion 0 = .ok (.aload_n 0, 1) := by decide +kernel
theorem dX3_makeVersion_1 : decode cX3_makeVersion 1 = .ok (.dup, 1) := by decide +kernel
theorem dX3_makeVersion_2 : decode cX3_makeVersion 2 = .ok (.getfield 24, 3) := by decide +kernel
theorem dX3_makeVersion_5 : decode cX3_makeVersion 5 = .ok (.iconst 1, 1) := by decide +kernel
theorem dX3_makeVersion_6 : decode cX3_makeVersion 6 = .ok (.iadd, 1) := by decide +kernel
theorem dX3_makeVersion_7 : decode cX3_makeVersion 7 = .ok (.putfield 24, 3) := by decide +kernel
theorem dX3_makeVersion_10 : decode cX3_makeVersion 10 = .ok (.aload_n 0, 1) := by decide +kernel
theorem dX3_makeVersion_11 : decode cX3_makeVersion 11 = .ok (.aload_n 0, 1) := by decide +kernel
theorem dX3_makeVersion_12 : decode cX3_makeVersion 12 = .ok (.getfield 27, 3) := by decide +kernel
theorem dX3_makeVersion_15 : decode cX3_makeVersion 15 = .ok (.putfield 30, 3) := by decide +kernel
theorem dX3_makeVersion_18 : decode cX3_makeVersion 18 = .ok (.aload_n 0, 1) := by decide +kernel
theorem dX3_makeVersion_19 : decode cX3_makeVersion 19 = .ok (.iload_n 1, 1) := by decide +kernel
theorem dX3_makeVersion_20 : decode cX3_makeVersion 20 = .ok (.putfield 27, 3) := by decide +kernel
theorem dX3_makeVersion_23 : decode cX3_makeVersion 23 = .ok (.aload_n 0, 1) := by decide +kernel
theorem dX3_makeVersion_24 : decode cX3_makeVersion 24 = .ok (.iconst 0, 1) := by decide +kernel
theorem dX3_makeVersion_25 : decode cX3_makeVersion 25 = .ok (.putfield 33, 3) := by decide +kernel
theorem dX3_makeVersion_28 : decode cX3_makeVersion 28 = .ok (.aload_n 0, 1) := by decide +kernel
theorem dX3_makeVersion_29 : decode cX3_makeVersion 29 = .ok (.aload_n 0, 1) := by decide +kernel
theorem dX3_makeVersion_30 : decode cX3_makeVersion 30 = .ok (.getfield 36, 3) := by decide +kernel
theorem dX3_makeVersion_33 : decode cX3_makeVersion 33 = .ok (.putfield 39, 3) := by decide +kernel
theorem dX3_makeVersion_36 : decode cX3_makeVersion 36 = .ok (.aload_n 0, 1) := by decide +kernel
theorem dX3_makeVersion_37 : decode cX3_makeVersion 37 = .ok (.iconst 0, 1) := by decide +kernel
theorem dX3_makeVersion_38 : decode cX3_makeVersion 38 = .ok (.putfield 36, 3) := by decide +kernel
theorem dX3_makeVersion_41 : decode cX3_makeVersion 41 = .ok (.return_, 1) := by decide +kernel
set_option maxRecDepth 20000 in
theorem dX3_versionOf_0 : decode cX3_versionOf 0 = .ok (.aload_n 0, 1) := by decide +kernel
theorem dX3_versionOf_1 : decode cX3_versionOf 1 = .ok (.getfield 33, 3) := by decide +kernel
theorem dX3_versionOf_4 : decode cX3_versionOf 4 = .ok (.iload_n 1, 1) := by decide +kernel
theorem dX3_versionOf_5 : decode cX3_versionOf 5 = .ok (.invokestatic 42, 3) := by decide +kernel
theorem dX3_versionOf_8 : decode cX3_versionOf 8 = .ok (.ifCond .eq 10, 3) := by decide +kernel
theorem dX3_versionOf_11 : decode cX3_versionOf 11 = .ok (.aload_n 0, 1) := by decide +kernel
theorem dX3_versionOf_12 : decode cX3_versionOf 12 = .ok (.getfield 24, 3) := by decide +kernel
theorem dX3_versionOf_15 : decode cX3_versionOf 15 = .ok (.goto 9, 3) := by decide +kernel
theorem dX3_versionOf_18 : decode cX3_versionOf 18 = .ok (.aload_n 0, 1) := by decide +kernel
theorem dX3_versionOf_19 : decode cX3_versionOf 19 = .ok (.getfield 24, 3) := by decide +kernel
theorem dX3_versionOf_22 : decode cX3_versionOf 22 = .ok (.iconst 1, 1) := by decide +kernel
theorem dX3_versionOf_23 : decode cX3_versionOf 23 = .ok (.isub, 1) := by decide +kernel
theorem dX3_versionOf_24 : decode cX3_versionOf 24 = .ok (.ireturn, 1) := by decide +kernel
set_option maxRecDepth 20000 in
theorem dX3_isGoodAt_0 : decode cX3_isGoodAt 0 = .ok (.iload_n 2, 1) := by decide +kernel
theorem dX3_isGoodAt_1 : decode cX3_isGoodAt 1 = .ok (.aload_n 0, 1) := by decide +kernel
theorem dX3_isGoodAt_2 : decode cX3_isGoodAt 2 = .ok (.getfield 24, 3) := by decide +kernel
theorem dX3_isGoodAt_5 : decode cX3_isGoodAt 5 = .ok (.if_icmp .ne 12, 3) := by decide +kernel
theorem dX3_isGoodAt_8 : decode cX3_isGoodAt 8 = .ok (.aload_n 0, 1) := by decide +kernel
theorem dX3_isGoodAt_9 : decode cX3_isGoodAt 9 = .ok (.getfield 36, 3) := by decide +kernel
theorem dX3_isGoodAt_12 : decode cX3_isGoodAt 12 = .ok (.iload_n 1, 1) := by decide +kernel
theorem dX3_isGoodAt_13 : decode cX3_isGoodAt 13 = .ok (.invokestatic 42, 3) := by decide +kernel
theorem dX3_isGoodAt_16 : decode cX3_isGoodAt 16 = .ok (.ireturn, 1) := by decide +kernel
theorem dX3_isGoodAt_17 : decode cX3_isGoodAt 17 = .ok (.iload_n 2, 1) := by decide +kernel
theorem dX3_isGoodAt_18 : decode cX3_isGoodAt 18 = .ok (.aload_n 0, 1) := by decide +kernel
theorem dX3_isGoodAt_19 : decode cX3_isGoodAt 19 = .ok (.getfield 24, 3) := by decide +kernel
theorem dX3_isGoodAt_22 : decode cX3_isGoodAt 22 = .ok (.iconst 1, 1) := by decide +kernel
theorem dX3_isGoodAt_23 : decode cX3_isGoodAt 23 = .ok (.isub, 1) := by decide +kernel
theorem dX3_isGoodAt_24 : decode cX3_isGoodAt 24 = .ok (.if_icmp .ne 18, 3) := by decide +kernel
theorem dX3_isGoodAt_27 : decode cX3_isGoodAt 27 = .ok (.aload_n 0, 1) := by decide +kernel
theorem dX3_isGoodAt_28 : decode cX3_isGoodAt 28 = .ok (.getfield 39, 3) := by decide +kernel
theorem dX3_isGoodAt_31 : decode cX3_isGoodAt 31 = .ok (.iload_n 1, 1) := by decide +kernel
theorem dX3_isGoodAt_32 : decode cX3_isGoodAt 32 = .ok (.invokestatic 42, 3) := by decide +kernel
theorem dX3_isGoodAt_35 : decode cX3_isGoodAt 35 = .ok (.ifCond .eq 7, 3) := by decide +kernel
theorem dX3_isGoodAt_38 : decode cX3_isGoodAt 38 = .ok (.iconst 1, 1) := by decide +kernel
theorem dX3_isGoodAt_39 : decode cX3_isGoodAt 39 = .ok (.goto 4, 3) := by decide +kernel
theorem dX3_isGoodAt_42 : decode cX3_isGoodAt 42 = .ok (.iconst 0, 1) := by decide +kernel
theorem dX3_isGoodAt_43 : decode cX3_isGoodAt 43 = .ok (.ireturn, 1) := by decide +kernel
theorem dX3_oldestGoodMade_0 : decode cX3_oldestGoodMade 0 = .ok (.aload_n 0, 1) := by decide +kernel
theorem dX3_oldestGoodMade_1 : decode cX3_oldestGoodMade 1 = .ok (.getfield 39, 3) := by decide +kernel
theorem dX3_oldestGoodMade_4 : decode cX3_oldestGoodMade 4 = .ok (.ifCond .eq 10, 3) := by decide +kernel
theorem dX3_oldestGoodMade_7 : decode cX3_oldestGoodMade 7 = .ok (.aload_n 0, 1) := by decide +kernel
theorem dX3_oldestGoodMade_8 : decode cX3_oldestGoodMade 8 = .ok (.getfield 30, 3) := by decide +kernel
theorem dX3_oldestGoodMade_11 : decode cX3_oldestGoodMade 11 = .ok (.goto 7, 3) := by decide +kernel
theorem dX3_oldestGoodMade_14 : decode cX3_oldestGoodMade 14 = .ok (.aload_n 0, 1) := by decide +kernel
theorem dX3_oldestGoodMade_15 : decode cX3_oldestGoodMade 15 = .ok (.getfield 27, 3) := by decide +kernel
theorem dX3_oldestGoodMade_18 : decode cX3_oldestGoodMade 18 = .ok (.ireturn, 1) := by decide +kernel
theorem dX3_lockedOut_0 : decode cX3_lockedOut 0 = .ok (.aload_n 0, 1) := by decide +kernel
theorem dX3_lockedOut_1 : decode cX3_lockedOut 1 = .ok (.getfield 36, 3) := by decide +kernel
theorem dX3_lockedOut_4 : decode cX3_lockedOut 4 = .ok (.aload_n 0, 1) := by decide +kernel
theorem dX3_lockedOut_5 : decode cX3_lockedOut 5 = .ok (.getfield 18, 3) := by decide +kernel
theorem dX3_lockedOut_8 : decode cX3_lockedOut 8 = .ok (.if_icmp .ne 7, 3) := by decide +kernel
theorem dX3_lockedOut_11 : decode cX3_lockedOut 11 = .ok (.iconst 0, 1) := by decide +kernel
theorem dX3_lockedOut_12 : decode cX3_lockedOut 12 = .ok (.goto 7, 3) := by decide +kernel
theorem dX3_lockedOut_15 : decode cX3_lockedOut 15 = .ok (.aload_n 0, 1) := by decide +kernel
theorem dX3_lockedOut_16 : decode cX3_lockedOut 16 = .ok (.getfield 33, 3) := by decide +kernel
theorem dX3_lockedOut_19 : decode cX3_lockedOut 19 = .ok (.istore_n 1, 1) := by decide +kernel
theorem dX3_lockedOut_20 : decode cX3_lockedOut 20 = .ok (.aload_n 0, 1) := by decide +kernel
theorem dX3_lockedOut_21 : decode cX3_lockedOut 21 = .ok (.getfield 39, 3) := by decide +kernel
theorem dX3_lockedOut_24 : decode cX3_lockedOut 24 = .ok (.aload_n 0, 1) := by decide +kernel
theorem dX3_lockedOut_25 : decode cX3_lockedOut 25 = .ok (.getfield 18, 3) := by decide +kernel
theorem dX3_lockedOut_28 : decode cX3_lockedOut 28 = .ok (.if_icmp .ne 7, 3) := by decide +kernel
theorem dX3_lockedOut_31 : decode cX3_lockedOut 31 = .ok (.iconst 0, 1) := by decide +kernel
theorem dX3_lockedOut_32 : decode cX3_lockedOut 32 = .ok (.goto 14, 3) := by decide +kernel
theorem dX3_lockedOut_35 : decode cX3_lockedOut 35 = .ok (.aload_n 0, 1) := by decide +kernel
theorem dX3_lockedOut_36 : decode cX3_lockedOut 36 = .ok (.getfield 15, 3) := by decide +kernel
theorem dX3_lockedOut_39 : decode cX3_lockedOut 39 = .ok (.aload_n 0, 1) := by decide +kernel
theorem dX3_lockedOut_40 : decode cX3_lockedOut 40 = .ok (.getfield 33, 3) := by decide +kernel
theorem dX3_lockedOut_43 : decode cX3_lockedOut 43 = .ok (.iconst (-1), 1) := by decide +kernel
theorem dX3_lockedOut_44 : decode cX3_lockedOut 44 = .ok (.ixor, 1) := by decide +kernel
theorem dX3_lockedOut_45 : decode cX3_lockedOut 45 = .ok (.iand, 1) := by decide +kernel
theorem dX3_lockedOut_46 : decode cX3_lockedOut 46 = .ok (.istore_n 2, 1) := by decide +kernel
theorem dX3_lockedOut_47 : decode cX3_lockedOut 47 = .ok (.iload_n 1, 1) := by decide +kernel
theorem dX3_lockedOut_48 : decode cX3_lockedOut 48 = .ok (.iload_n 2, 1) := by decide +kernel
theorem dX3_lockedOut_49 : decode cX3_lockedOut 49 = .ok (.ior, 1) := by decide +kernel
theorem dX3_lockedOut_50 : decode cX3_lockedOut 50 = .ok (.ireturn, 1) := by decide +kernel
theorem dX3_endOfLife_0 : decode cX3_endOfLife 0 = .ok (.aload_n 0, 1) := by decide +kernel
theorem dX3_endOfLife_1 : decode cX3_endOfLife 1 = .ok (.getfield 27, 3) := by decide +kernel
theorem dX3_endOfLife_4 : decode cX3_endOfLife 4 = .ok (.aload_n 0, 1) := by decide +kernel
theorem dX3_endOfLife_5 : decode cX3_endOfLife 5 = .ok (.getfield 21, 3) := by decide +kernel
theorem dX3_endOfLife_8 : decode cX3_endOfLife 8 = .ok (.iadd, 1) := by decide +kernel
theorem dX3_endOfLife_9 : decode cX3_endOfLife 9 = .ok (.ireturn, 1) := by decide +kernel
theorem dX4_init_0 : decode cX4_init 0 = .ok (.aload_n 0, 1) := by decide +kernel
theorem dX4_init_1 : decode cX4_init 1 = .ok (.invokespecial 3, 3) := by decide +kernel
theorem dX4_init_4 : decode cX4_init 4 = .ok (.aload_n 0, 1) := by decide +kernel
theorem dX4_init_5 : decode cX4_init 5 = .ok (.bipush 12, 2) := by decide +kernel
theorem dX4_init_7 : decode cX4_init 7 = .ok (.newarray .int, 2) := by decide +kernel
theorem dX4_init_9 : decode cX4_init 9 = .ok (.putfield 9, 3) := by decide +kernel
theorem dX4_init_12 : decode cX4_init 12 = .ok (.return_, 1) := by decide +kernel
set_option maxRecDepth 20000 in
theorem dX4_isDirect_0 : decode cX4_isDirect 0 = .ok (.aload_n 0, 1) := by decide +kernel
theorem dX4_isDirect_1 : decode cX4_isDirect 1 = .ok (.getfield 9, 3) := by decide +kernel
theorem dX4_isDirect_4 : decode cX4_isDirect 4 = .ok (.iload_n 1, 1) := by decide +kernel
theorem dX4_isDirect_5 : decode cX4_isDirect 5 = .ok (.iaload, 1) := by decide +kernel
theorem dX4_isDirect_6 : decode cX4_isDirect 6 = .ok (.iload_n 2, 1) := by decide +kernel
theorem dX4_isDirect_7 : decode cX4_isDirect 7 = .ok (.invokestatic 15, 3) := by decide +kernel
theorem dX4_isDirect_10 : decode cX4_isDirect 10 = .ok (.ireturn, 1) := by decide +kernel
theorem dX4_put_0 : decode cX4_put 0 = .ok (.iconst 1, 1) := by decide +kernel
theorem dX4_put_1 : decode cX4_put 1 = .ok (.iload_n 2, 1) := by decide +kernel
theorem dX4_put_2 : decode cX4_put 2 = .ok (.ishl, 1) := by decide +kernel
theorem dX4_put_3 : decode cX4_put 3 = .ok (.istore 4, 2) := by decide +kernel
theorem dX4_put_5 : decode cX4_put 5 = .ok (.aload_n 0, 1) := by decide +kernel
theorem dX4_put_6 : decode cX4_put 6 = .ok (.getfield 9, 3) := by decide +kernel
theorem dX4_put_9 : decode cX4_put 9 = .ok (.iload_n 1, 1) := by decide +kernel
theorem dX4_put_10 : decode cX4_put 10 = .ok (.iload_n 3, 1) := by decide +kernel
theorem dX4_put_11 : decode cX4_put 11 = .ok (.ifCond .eq 15, 3) := by decide +kernel
theorem dX4_put_14 : decode cX4_put 14 = .ok (.aload_n 0, 1) := by decide +kernel
theorem dX4_put_15 : decode cX4_put 15 = .ok (.getfield 9, 3) := by decide +kernel
theorem dX4_put_18 : decode cX4_put 18 = .ok (.iload_n 1, 1) := by decide +kernel
theorem dX4_put_19 : decode cX4_put 19 = .ok (.iaload, 1) := by decide +kernel
theorem dX4_put_20 : decode cX4_put 20 = .ok (.iload 4, 2) := by decide +kernel
theorem dX4_put_22 : decode cX4_put 22 = .ok (.ior, 1) := by decide +kernel
theorem dX4_put_23 : decode cX4_put 23 = .ok (.goto 14, 3) := by decide +kernel
theorem dX4_put_26 : decode cX4_put 26 = .ok (.aload_n 0, 1) := by decide +kernel
theorem dX4_put_27 : decode cX4_put 27 = .ok (.getfield 9, 3) := by decide +kernel
theorem dX4_put_30 : decode cX4_put 30 = .ok (.iload_n 1, 1) := by decide +kernel
theorem dX4_put_31 : decode cX4_put 31 = .ok (.iaload, 1) := by decide +kernel
theorem dX4_put_32 : decode cX4_put 32 = .ok (.iload 4, 2) := by decide +kernel
theorem dX4_put_34 : decode cX4_put 34 = .ok (.iconst (-1), 1) := by decide +kernel
theorem dX4_put_35 : decode cX4_put 35 = .ok (.ixor, 1) := by decide +kernel
theorem dX4_put_36 : decode cX4_put 36 = .ok (.iand, 1) := by decide +kernel
theorem dX4_put_37 : decode cX4_put 37 = .ok (.iastore, 1) := by decide +kernel
theorem dX4_put_38 : decode cX4_put 38 = .ok (.return_, 1) := by decide +kernel
set_option maxRecDepth 20000 in
theorem dX4_isReached_0 : decode cX4_isReached 0 = .ok (.aload_n 0, 1) := by decide +kernel
theorem dX4_isReached_1 : decode cX4_isReached 1 = .ok (.getfield 9, 3) := by decide +kernel
theorem dX4_isReached_4 : decode cX4_isReached 4 = .ok (.iload_n 1, 1) := by decide +kernel
theorem dX4_isReached_5 : decode cX4_isReached 5 = .ok (.iaload, 1) := by decide +kernel
theorem dX4_isReached_6 : decode cX4_isReached 6 = .ok (.istore_n 3, 1) := by decide +kernel
theorem dX4_isReached_7 : decode cX4_isReached 7 = .ok (.iconst 0, 1) := by decide +kernel
theorem dX4_isReached_8 : decode cX4_isReached 8 = .ok (.istore 4, 2) := by decide +kernel
theorem dX4_isReached_10 : decode cX4_isReached 10 = .ok (.iconst 0, 1) := by decide +kernel
theorem dX4_isReached_11 : decode cX4_isReached 11 = .ok (.istore 5, 2) := by decide +kernel
theorem dX4_isReached_13 : decode cX4_isReached 13 = .ok (.iload 5, 2) := by decide +kernel
theorem dX4_isReached_15 : decode cX4_isReached 15 = .ok (.bipush 12, 2) := by decide +kernel
theorem dX4_isReached_17 : decode cX4_isReached 17 = .ok (.if_icmp .ge 58, 3) := by decide +kernel
theorem dX4_isReached_20 : decode cX4_isReached 20 = .ok (.iload_n 3, 1) := by decide +kernel
theorem dX4_isReached_21 : decode cX4_isReached 21 = .ok (.iload 4, 2) := by decide +kernel
theorem dX4_isReached_23 : decode cX4_isReached 23 = .ok (.if_icmp .eq 52, 3) := by decide +kernel
theorem dX4_isReached_26 : decode cX4_isReached 26 = .ok (.iload_n 3, 1) := by decide +kernel
theorem dX4_isReached_27 : decode cX4_isReached 27 = .ok (.istore 4, 2) := by decide +kernel
theorem dX4_isReached_29 : decode cX4_isReached 29 = .ok (.iconst 0, 1) := by decide +kernel
theorem dX4_isReached_30 : decode cX4_isReached 30 = .ok (.istore 6, 2) := by decide +kernel
theorem dX4_isReached_32 : decode cX4_isReached 32 = .ok (.iload 6, 2) := by decide +kernel
theorem dX4_isReached_34 : decode cX4_isReached 34 = .ok (.bipush 12, 2) := by decide +kernel
theorem dX4_isReached_36 : decode cX4_isReached 36 = .ok (.if_icmp .ge 33, 3) := by decide +kernel
theorem dX4_isReached_39 : decode cX4_isReached 39 = .ok (.iload_n 3, 1) := by decide +kernel
theorem dX4_isReached_40 : decode cX4_isReached 40 = .ok (.iload 4, 2) := by decide +kernel
theorem dX4_isReached_42 : decode cX4_isReached 42 = .ok (.iload 6, 2) := by decide +kernel
theorem dX4_isReached_44 : decode cX4_isReached 44 = .ok (.invokestatic 15, 3) := by decide +kernel
theorem dX4_isReached_47 : decode cX4_isReached 47 = .ok (.ifCond .eq 13, 3) := by decide +kernel
theorem dX4_isReached_50 : decode cX4_isReached 50 = .ok (.aload_n 0, 1) := by decide +kernel
theorem dX4_isReached_51 : decode cX4_isReached 51 = .ok (.getfield 9, 3) := by decide +kernel
theorem dX4_isReached_54 : decode cX4_isReached 54 = .ok (.iload 6, 2) := by decide +kernel
theorem dX4_isReached_56 : decode cX4_isReached 56 = .ok (.iaload, 1) := by decide +kernel
theorem dX4_isReached_57 : decode cX4_isReached 57 = .ok (.goto 4, 3) := by decide +kernel
theorem dX4_isReached_60 : decode cX4_isReached 60 = .ok (.iconst 0, 1) := by decide +kernel
theorem dX4_isReached_61 : decode cX4_isReached 61 = .ok (.ior, 1) := by decide +kernel
theorem dX4_isReached_62 : decode cX4_isReached 62 = .ok (.istore_n 3, 1) := by decide +kernel
theorem dX4_isReached_63 : decode cX4_isReached 63 = .ok (.iinc 6 1, 3) := by decide +kernel
theorem dX4_isReached_66 : decode cX4_isReached 66 = .ok (.goto (-34), 3) := by decide +kernel
theorem dX4_isReached_69 : decode cX4_isReached 69 = .ok (.iinc 5 1, 3) := by decide +kernel
theorem dX4_isReached_72 : decode cX4_isReached 72 = .ok (.goto (-59), 3) := by decide +kernel
theorem dX4_isReached_75 : decode cX4_isReached 75 = .ok (.iload_n 3, 1) := by decide +kernel
theorem dX4_isReached_76 : decode cX4_isReached 76 = .ok (.iload_n 2, 1) := by decide +kernel
theorem dX4_isReached_77 : decode cX4_isReached 77 = .ok (.invokestatic 15, 3) := by decide +kernel
theorem dX4_isReached_80 : decode cX4_isReached 80 = .ok (.ireturn, 1) := by decide +kernel
set_option maxRecDepth 20000 in
theorem dX5_init_0 : decode cX5_init 0 = .ok (.aload_n 0, 1) := by decide +kernel
theorem dX5_init_1 : decode cX5_init 1 = .ok (.invokespecial 3, 3) := by decide +kernel
theorem dX5_init_4 : decode cX5_init 4 = .ok (.aload_n 0, 1) := by decide +kernel
theorem dX5_init_5 : decode cX5_init 5 = .ok (.bipush 12, 2) := by decide +kernel
theorem dX5_init_7 : decode cX5_init 7 = .ok (.anewarray 9, 3) := by decide +kernel
theorem dX5_init_10 : decode cX5_init 10 = .ok (.putfield 11, 3) := by decide +kernel
theorem dX5_init_13 : decode cX5_init 13 = .ok (.aload_n 0, 1) := by decide +kernel
theorem dX5_init_14 : decode cX5_init 14 = .ok (.bipush 12, 2) := by decide +kernel
theorem dX5_init_16 : decode cX5_init 16 = .ok (.anewarray 15, 3) := by decide +kernel
theorem dX5_init_19 : decode cX5_init 19 = .ok (.putfield 17, 3) := by decide +kernel
theorem dX5_init_22 : decode cX5_init 22 = .ok (.aload_n 0, 1) := by decide +kernel
theorem dX5_init_23 : decode cX5_init 23 = .ok (.new 21, 3) := by decide +kernel
theorem dX5_init_26 : decode cX5_init 26 = .ok (.dup, 1) := by decide +kernel
theorem dX5_init_27 : decode cX5_init 27 = .ok (.invokespecial 23, 3) := by decide +kernel
theorem dX5_init_30 : decode cX5_init 30 = .ok (.putfield 24, 3) := by decide +kernel
theorem dX5_init_33 : decode cX5_init 33 = .ok (.aload_n 0, 1) := by decide +kernel
theorem dX5_init_34 : decode cX5_init 34 = .ok (.new 28, 3) := by decide +kernel
theorem dX5_init_37 : decode cX5_init 37 = .ok (.dup, 1) := by decide +kernel
theorem dX5_init_38 : decode cX5_init 38 = .ok (.invokespecial 30, 3) := by decide +kernel
theorem dX5_init_41 : decode cX5_init 41 = .ok (.putfield 31, 3) := by decide +kernel
theorem dX5_init_44 : decode cX5_init 44 = .ok (.aload_n 0, 1) := by decide +kernel
theorem dX5_init_45 : decode cX5_init 45 = .ok (.new 35, 3) := by decide +kernel
theorem dX5_init_48 : decode cX5_init 48 = .ok (.dup, 1) := by decide +kernel
theorem dX5_init_49 : decode cX5_init 49 = .ok (.invokespecial 37, 3) := by decide +kernel
theorem dX5_init_52 : decode cX5_init 52 = .ok (.putfield 38, 3) := by decide +kernel
theorem dX5_init_55 : decode cX5_init 55 = .ok (.aload_n 0, 1) := by decide +kernel
theorem dX5_init_56 : decode cX5_init 56 = .ok (.iconst 0, 1) := by decide +kernel
theorem dX5_init_57 : decode cX5_init 57 = .ok (.putfield 42, 3) := by decide +kernel
theorem dX5_init_60 : decode cX5_init 60 = .ok (.aload_n 0, 1) := by decide +kernel
theorem dX5_init_61 : decode cX5_init 61 = .ok (.iconst 0, 1) := by decide +kernel
theorem dX5_init_62 : decode cX5_init 62 = .ok (.putfield 46, 3) := by decide +kernel
theorem dX5_init_65 : decode cX5_init 65 = .ok (.aload_n 0, 1) := by decide +kernel
theorem dX5_init_66 : decode cX5_init 66 = .ok (.bipush 10, 2) := by decide +kernel
theorem dX5_init_68 : decode cX5_init 68 = .ok (.putfield 49, 3) := by decide +kernel
theorem dX5_init_71 : decode cX5_init 71 = .ok (.aload_n 0, 1) := by decide +kernel
theorem dX5_init_72 : decode cX5_init 72 = .ok (.bipush 100, 2) := by decide +kernel
theorem dX5_init_74 : decode cX5_init 74 = .ok (.putfield 52, 3) := by decide +kernel
theorem dX5_init_77 : decode cX5_init 77 = .ok (.aload_n 0, 1) := by decide +kernel
theorem dX5_init_78 : decode cX5_init 78 = .ok (.iconst 0, 1) := by decide +kernel
theorem dX5_init_79 : decode cX5_init 79 = .ok (.putfield 55, 3) := by decide +kernel
theorem dX5_init_82 : decode cX5_init 82 = .ok (.aload_n 0, 1) := by decide +kernel
theorem dX5_init_83 : decode cX5_init 83 = .ok (.iconst 0, 1) := by decide +kernel
theorem dX5_init_84 : decode cX5_init 84 = .ok (.putfield 58, 3) := by decide +kernel
theorem dX5_init_87 : decode cX5_init 87 = .ok (.iconst 0, 1) := by decide +kernel
theorem dX5_init_88 : decode cX5_init 88 = .ok (.istore_n 1, 1) := by decide +kernel
theorem dX5_init_89 : decode cX5_init 89 = .ok (.iload_n 1, 1) := by decide +kernel
theorem dX5_init_90 : decode cX5_init 90 = .ok (.bipush 12, 2) := by decide +kernel
theorem dX5_init_92 : decode cX5_init 92 = .ok (.if_icmp .ge 37, 3) := by decide +kernel
theorem dX5_init_95 : decode cX5_init 95 = .ok (.aload_n 0, 1) := by decide +kernel
theorem dX5_init_96 : decode cX5_init 96 = .ok (.getfield 17, 3) := by decide +kernel
theorem dX5_init_99 : decode cX5_init 99 = .ok (.iload_n 1, 1) := by decide +kernel
theorem dX5_init_100 : decode cX5_init 100 = .ok (.new 15, 3) := by decide +kernel
theorem dX5_init_103 : decode cX5_init 103 = .ok (.dup, 1) := by decide +kernel
theorem dX5_init_104 : decode cX5_init 104 = .ok (.invokespecial 61, 3) := by decide +kernel
theorem dX5_init_107 : decode cX5_init 107 = .ok (.aastore, 1) := by decide +kernel
theorem dX5_init_108 : decode cX5_init 108 = .ok (.aload_n 0, 1) := by decide +kernel
theorem dX5_init_109 : decode cX5_init 109 = .ok (.getfield 11, 3) := by decide +kernel
theorem dX5_init_112 : decode cX5_init 112 = .ok (.iload_n 1, 1) := by decide +kernel
theorem dX5_init_113 : decode cX5_init 113 = .ok (.aload_n 0, 1) := by decide +kernel
theorem dX5_init_114 : decode cX5_init 114 = .ok (.getfield 17, 3) := by decide +kernel
theorem dX5_init_117 : decode cX5_init 117 = .ok (.iload_n 1, 1) := by decide +kernel
theorem dX5_init_118 : decode cX5_init 118 = .ok (.aaload, 1) := by decide +kernel
theorem dX5_init_119 : decode cX5_init 119 = .ok (.getfield 62, 3) := by decide +kernel
theorem dX5_init_122 : decode cX5_init 122 = .ok (.aastore, 1) := by decide +kernel
theorem dX5_init_123 : decode cX5_init 123 = .ok (.iinc 1 1, 3) := by decide +kernel
theorem dX5_init_126 : decode cX5_init 126 = .ok (.goto (-37), 3) := by decide +kernel
theorem dX5_init_129 : decode cX5_init 129 = .ok (.return_, 1) := by decide +kernel
set_option maxRecDepth 20000 in
theorem dX5_secret_0 : decode cX5_secret 0 = .ok (.iload_n 1, 1) := by decide +kernel
theorem dX5_secret_1 : decode cX5_secret 1 = .ok (.ifCond .lt 48, 3) := by decide +kernel
theorem dX5_secret_4 : decode cX5_secret 4 = .ok (.iload_n 1, 1) := by decide +kernel
theorem dX5_secret_5 : decode cX5_secret 5 = .ok (.iconst 1, 1) := by decide +kernel
theorem dX5_secret_6 : decode cX5_secret 6 = .ok (.if_icmp .gt 43, 3) := by decide +kernel
theorem dX5_secret_9 : decode cX5_secret 9 = .ok (.iload_n 2, 1) := by decide +kernel
theorem dX5_secret_10 : decode cX5_secret 10 = .ok (.ifCond .lt 39, 3) := by decide +kernel
theorem dX5_secret_13 : decode cX5_secret 13 = .ok (.iload_n 2, 1) := by decide +kernel
theorem dX5_secret_14 : decode cX5_secret 14 = .ok (.sipush 1023, 3) := by decide +kernel
theorem dX5_secret_17 : decode cX5_secret 17 = .ok (.if_icmp .gt 32, 3) := by decide +kernel
theorem dX5_secret_20 : decode cX5_secret 20 = .ok (.iload_n 3, 1) := by decide +kernel
theorem dX5_secret_21 : decode cX5_secret 21 = .ok (.iconst 1, 1) := by decide +kernel
theorem dX5_secret_22 : decode cX5_secret 22 = .ok (.if_icmp .lt 27, 3) := by decide +kernel
theorem dX5_secret_25 : decode cX5_secret 25 = .ok (.iload_n 3, 1) := by decide +kernel
theorem dX5_secret_26 : decode cX5_secret 26 = .ok (.bipush 63, 2) := by decide +kernel
theorem dX5_secret_28 : decode cX5_secret 28 = .ok (.if_icmp .gt 21, 3) := by decide +kernel
theorem dX5_secret_31 : decode cX5_secret 31 = .ok (.iload 4, 2) := by decide +kernel
theorem dX5_secret_33 : decode cX5_secret 33 = .ok (.iconst 1, 1) := by decide +kernel
theorem dX5_secret_34 : decode cX5_secret 34 = .ok (.if_icmp .lt 15, 3) := by decide +kernel
theorem dX5_secret_37 : decode cX5_secret 37 = .ok (.iload 4, 2) := by decide +kernel
theorem dX5_secret_39 : decode cX5_secret 39 = .ok (.sipush 10000, 3) := by decide +kernel
theorem dX5_secret_42 : decode cX5_secret 42 = .ok (.if_icmp .gt 7, 3) := by decide +kernel
theorem dX5_secret_45 : decode cX5_secret 45 = .ok (.iconst 1, 1) := by decide +kernel
theorem dX5_secret_46 : decode cX5_secret 46 = .ok (.goto 4, 3) := by decide +kernel
theorem dX5_secret_49 : decode cX5_secret 49 = .ok (.iconst 0, 1) := by decide +kernel
theorem dX5_secret_50 : decode cX5_secret 50 = .ok (.istore 5, 2) := by decide +kernel
theorem dX5_secret_52 : decode cX5_secret 52 = .ok (.iload 5, 2) := by decide +kernel
theorem dX5_secret_54 : decode cX5_secret 54 = .ok (.ifCond .eq 12, 3) := by decide +kernel
theorem dX5_secret_57 : decode cX5_secret 57 = .ok (.aload_n 0, 1) := by decide +kernel
theorem dX5_secret_58 : decode cX5_secret 58 = .ok (.getfield 42, 3) := by decide +kernel
theorem dX5_secret_61 : decode cX5_secret 61 = .ok (.bipush 12, 2) := by decide +kernel
theorem dX5_secret_63 : decode cX5_secret 63 = .ok (.if_icmp .lt 5, 3) := by decide +kernel
theorem dX5_secret_66 : decode cX5_secret 66 = .ok (.iconst (-1), 1) := by decide +kernel
theorem dX5_secret_67 : decode cX5_secret 67 = .ok (.ireturn, 1) := by decide +kernel
theorem dX5_secret_68 : decode cX5_secret 68 = .ok (.aload_n 0, 1) := by decide +kernel
theorem dX5_secret_69 : decode cX5_secret 69 = .ok (.getfield 11, 3) := by decide +kernel
theorem dX5_secret_72 : decode cX5_secret 72 = .ok (.aload_n 0, 1) := by decide +kernel
theorem dX5_secret_73 : decode cX5_secret 73 = .ok (.getfield 42, 3) := by decide +kernel
theorem dX5_secret_76 : decode cX5_secret 76 = .ok (.aaload, 1) := by decide +kernel
theorem dX5_secret_77 : decode cX5_secret 77 = .ok (.iload_n 1, 1) := by decide +kernel
theorem dX5_secret_78 : decode cX5_secret 78 = .ok (.iload_n 2, 1) := by decide +kernel
theorem dX5_secret_79 : decode cX5_secret 79 = .ok (.iload_n 3, 1) := by decide +kernel
theorem dX5_secret_80 : decode cX5_secret 80 = .ok (.iload 4, 2) := by decide +kernel
theorem dX5_secret_82 : decode cX5_secret 82 = .ok (.aload_n 0, 1) := by decide +kernel
theorem dX5_secret_83 : decode cX5_secret 83 = .ok (.getfield 46, 3) := by decide +kernel
theorem dX5_secret_86 : decode cX5_secret 86 = .ok (.invokevirtual 66, 3) := by decide +kernel
theorem dX5_secret_89 : decode cX5_secret 89 = .ok (.aload_n 0, 1) := by decide +kernel
theorem dX5_secret_90 : decode cX5_secret 90 = .ok (.dup, 1) := by decide +kernel
theorem dX5_secret_91 : decode cX5_secret 91 = .ok (.getfield 42, 3) := by decide +kernel
theorem dX5_secret_94 : decode cX5_secret 94 = .ok (.iconst 1, 1) := by decide +kernel
theorem dX5_secret_95 : decode cX5_secret 95 = .ok (.iadd, 1) := by decide +kernel
theorem dX5_secret_96 : decode cX5_secret 96 = .ok (.putfield 42, 3) := by decide +kernel
theorem dX5_secret_99 : decode cX5_secret 99 = .ok (.aload_n 0, 1) := by decide +kernel
theorem dX5_secret_100 : decode cX5_secret 100 = .ok (.getfield 42, 3) := by decide +kernel
theorem dX5_secret_103 : decode cX5_secret 103 = .ok (.iconst 1, 1) := by decide +kernel
theorem dX5_secret_104 : decode cX5_secret 104 = .ok (.isub, 1) := by decide +kernel
theorem dX5_secret_105 : decode cX5_secret 105 = .ok (.ireturn, 1) := by decide +kernel
set_option maxRecDepth 20000 in
theorem dX5_needs_0 : decode cX5_needs 0 = .ok (.aload_n 0, 1) := by decide +kernel
theorem dX5_needs_1 : decode cX5_needs 1 = .ok (.iload_n 1, 1) := by decide +kernel
theorem dX5_needs_2 : decode cX5_needs 2 = .ok (.invokevirtual 70, 3) := by decide +kernel
theorem dX5_needs_5 : decode cX5_needs 5 = .ok (.ifCond .eq 24, 3) := by decide +kernel
theorem dX5_needs_8 : decode cX5_needs 8 = .ok (.aload_n 0, 1) := by decide +kernel
theorem dX5_needs_9 : decode cX5_needs 9 = .ok (.iload_n 2, 1) := by decide +kernel
theorem dX5_needs_10 : decode cX5_needs 10 = .ok (.invokevirtual 70, 3) := by decide +kernel
theorem dX5_needs_13 : decode cX5_needs 13 = .ok (.ifCond .eq 16, 3) := by decide +kernel
theorem dX5_needs_16 : decode cX5_needs 16 = .ok (.aload_n 0, 1) := by decide +kernel
theorem dX5_needs_17 : decode cX5_needs 17 = .ok (.getfield 24, 3) := by decide +kernel
theorem dX5_needs_20 : decode cX5_needs 20 = .ok (.iload_n 1, 1) := by decide +kernel
theorem dX5_needs_21 : decode cX5_needs 21 = .ok (.iload_n 2, 1) := by decide +kernel
theorem dX5_needs_22 : decode cX5_needs 22 = .ok (.invokevirtual 74, 3) := by decide +kernel
theorem dX5_needs_25 : decode cX5_needs 25 = .ok (.iload_n 3, 1) := by decide +kernel
theorem dX5_needs_26 : decode cX5_needs 26 = .ok (.if_icmp .ne 5, 3) := by decide +kernel
theorem dX5_needs_29 : decode cX5_needs 29 = .ok (.iconst 0, 1) := by decide +kernel
theorem dX5_needs_30 : decode cX5_needs 30 = .ok (.ireturn, 1) := by decide +kernel
theorem dX5_needs_31 : decode cX5_needs 31 = .ok (.iload_n 3, 1) := by decide +kernel
theorem dX5_needs_32 : decode cX5_needs 32 = .ok (.ifCond .eq 22, 3) := by decide +kernel
theorem dX5_needs_35 : decode cX5_needs 35 = .ok (.iload_n 1, 1) := by decide +kernel
theorem dX5_needs_36 : decode cX5_needs 36 = .ok (.iload_n 2, 1) := by decide +kernel
theorem dX5_needs_37 : decode cX5_needs 37 = .ok (.if_icmp .eq 15, 3) := by decide +kernel
theorem dX5_needs_40 : decode cX5_needs 40 = .ok (.aload_n 0, 1) := by decide +kernel
theorem dX5_needs_41 : decode cX5_needs 41 = .ok (.getfield 24, 3) := by decide +kernel
theorem dX5_needs_44 : decode cX5_needs 44 = .ok (.iload_n 2, 1) := by decide +kernel
theorem dX5_needs_45 : decode cX5_needs 45 = .ok (.iload_n 1, 1) := by decide +kernel
theorem dX5_needs_46 : decode cX5_needs 46 = .ok (.invokevirtual 78, 3) := by decide +kernel
theorem dX5_needs_49 : decode cX5_needs 49 = .ok (.ifCond .eq 5, 3) := by decide +kernel
theorem dX5_needs_52 : decode cX5_needs 52 = .ok (.iconst 0, 1) := by decide +kernel
theorem dX5_needs_53 : decode cX5_needs 53 = .ok (.ireturn, 1) := by decide +kernel
theorem dX5_needs_54 : decode cX5_needs 54 = .ok (.aload_n 0, 1) := by decide +kernel
theorem dX5_needs_55 : decode cX5_needs 55 = .ok (.getfield 24, 3) := by decide +kernel
theorem dX5_needs_58 : decode cX5_needs 58 = .ok (.iload_n 1, 1) := by decide +kernel
theorem dX5_needs_59 : decode cX5_needs 59 = .ok (.iload_n 2, 1) := by decide +kernel
theorem dX5_needs_60 : decode cX5_needs 60 = .ok (.iload_n 3, 1) := by decide +kernel
theorem dX5_needs_61 : decode cX5_needs 61 = .ok (.invokevirtual 81, 3) := by decide +kernel
theorem dX5_needs_64 : decode cX5_needs 64 = .ok (.iconst 1, 1) := by decide +kernel
theorem dX5_needs_65 : decode cX5_needs 65 = .ok (.ireturn, 1) := by decide +kernel
theorem dX5_delay_0 : decode cX5_delay 0 = .ok (.iload_n 1, 1) := by decide +kernel
theorem dX5_delay_1 : decode cX5_delay 1 = .ok (.ifCond .lt 19, 3) := by decide +kernel
theorem dX5_delay_4 : decode cX5_delay 4 = .ok (.iload_n 1, 1) := by decide +kernel
theorem dX5_delay_5 : decode cX5_delay 5 = .ok (.bipush 16, 2) := by decide +kernel
theorem dX5_delay_7 : decode cX5_delay 7 = .ok (.if_icmp .ge 13, 3) := by decide +kernel
theorem dX5_delay_10 : decode cX5_delay 10 = .ok (.iload_n 2, 1) := by decide +kernel
theorem dX5_delay_11 : decode cX5_delay 11 = .ok (.ifCond .lt 9, 3) := by decide +kernel
theorem dX5_delay_14 : decode cX5_delay 14 = .ok (.iload_n 2, 1) := by decide +kernel
theorem dX5_delay_15 : decode cX5_delay 15 = .ok (.bipush 20, 2) := by decide +kernel
theorem dX5_delay_17 : decode cX5_delay 17 = .ok (.if_icmp .le 5, 3) := by decide +kernel
theorem dX5_delay_20 : decode cX5_delay 20 = .ok (.iconst 0, 1) := by decide +kernel
theorem dX5_delay_21 : decode cX5_delay 21 = .ok (.ireturn, 1) := by decide +kernel
theorem dX5_delay_22 : decode cX5_delay 22 = .ok (.aload_n 0, 1) := by decide +kernel
theorem dX5_delay_23 : decode cX5_delay 23 = .ok (.getfield 31, 3) := by decide +kernel
theorem dX5_delay_26 : decode cX5_delay 26 = .ok (.getfield 85, 3) := by decide +kernel
theorem dX5_delay_29 : decode cX5_delay 29 = .ok (.iload_n 1, 1) := by decide +kernel
theorem dX5_delay_30 : decode cX5_delay 30 = .ok (.iload_n 2, 1) := by decide +kernel
theorem dX5_delay_31 : decode cX5_delay 31 = .ok (.iastore, 1) := by decide +kernel
theorem dX5_delay_32 : decode cX5_delay 32 = .ok (.iconst 1, 1) := by decide +kernel
theorem dX5_delay_33 : decode cX5_delay 33 = .ok (.ireturn, 1) := by decide +kernel
theorem dX5_quiet_0 : decode cX5_quiet 0 = .ok (.iload_n 1, 1) := by decide +kernel
theorem dX5_quiet_1 : decode cX5_quiet 1 = .ok (.ifCond .lt 21, 3) := by decide +kernel
theorem dX5_quiet_4 : decode cX5_quiet 4 = .ok (.iload_n 1, 1) := by decide +kernel
theorem dX5_quiet_5 : decode cX5_quiet 5 = .ok (.sipush 1000, 3) := by decide +kernel
theorem dX5_quiet_8 : decode cX5_quiet 8 = .ok (.if_icmp .gt 14, 3) := by decide +kernel
theorem dX5_quiet_11 : decode cX5_quiet 11 = .ok (.iload_n 2, 1) := by decide +kernel
theorem dX5_quiet_12 : decode cX5_quiet 12 = .ok (.ifCond .lt 10, 3) := by decide +kernel
theorem dX5_quiet_15 : decode cX5_quiet 15 = .ok (.iload_n 2, 1) := by decide +kernel
theorem dX5_quiet_16 : decode cX5_quiet 16 = .ok (.sipush 10000, 3) := by decide +kernel
theorem dX5_quiet_19 : decode cX5_quiet 19 = .ok (.if_icmp .le 5, 3) := by decide +kernel
theorem dX5_quiet_22 : decode cX5_quiet 22 = .ok (.iconst 0, 1) := by decide +kernel
theorem dX5_quiet_23 : decode cX5_quiet 23 = .ok (.ireturn, 1) := by decide +kernel
theorem dX5_quiet_24 : decode cX5_quiet 24 = .ok (.aload_n 0, 1) := by decide +kernel
theorem dX5_quiet_25 : decode cX5_quiet 25 = .ok (.iload_n 1, 1) := by decide +kernel
theorem dX5_quiet_26 : decode cX5_quiet 26 = .ok (.putfield 49, 3) := by decide +kernel
theorem dX5_quiet_29 : decode cX5_quiet 29 = .ok (.aload_n 0, 1) := by decide +kernel
theorem dX5_quiet_30 : decode cX5_quiet 30 = .ok (.iload_n 2, 1) := by decide +kernel
theorem dX5_quiet_31 : decode cX5_quiet 31 = .ok (.putfield 52, 3) := by decide +kernel
theorem dX5_quiet_34 : decode cX5_quiet 34 = .ok (.iconst 1, 1) := by decide +kernel
theorem dX5_quiet_35 : decode cX5_quiet 35 = .ok (.ireturn, 1) := by decide +kernel
set_option maxRecDepth 20000 in
theorem dX5_down_0 : decode cX5_down 0 = .ok (.iload_n 1, 1) := by decide +kernel
theorem dX5_down_1 : decode cX5_down 1 = .ok (.ifCond .lt 21, 3) := by decide +kernel
theorem dX5_down_4 : decode cX5_down 4 = .ok (.iload_n 1, 1) := by decide +kernel
theorem dX5_down_5 : decode cX5_down 5 = .ok (.bipush 16, 2) := by decide +kernel
theorem dX5_down_7 : decode cX5_down 7 = .ok (.if_icmp .gt 15, 3) := by decide +kernel
theorem dX5_down_10 : decode cX5_down 10 = .ok (.aload_n 0, 1) := by decide +kernel
theorem dX5_down_11 : decode cX5_down 11 = .ok (.getfield 31, 3) := by decide +kernel
theorem dX5_down_14 : decode cX5_down 14 = .ok (.iload_n 1, 1) := by decide +kernel
theorem dX5_down_15 : decode cX5_down 15 = .ok (.invokevirtual 89, 3) := by decide +kernel
theorem dX5_down_18 : decode cX5_down 18 = .ok (.iload_n 2, 1) := by decide +kernel
theorem dX5_down_19 : decode cX5_down 19 = .ok (.if_icmp .ne 5, 3) := by decide +kernel
theorem dX5_down_22 : decode cX5_down 22 = .ok (.iconst 0, 1) := by decide +kernel
theorem dX5_down_23 : decode cX5_down 23 = .ok (.ireturn, 1) := by decide +kernel
theorem dX5_down_24 : decode cX5_down 24 = .ok (.aload_n 0, 1) := by decide +kernel
theorem dX5_down_25 : decode cX5_down 25 = .ok (.getfield 31, 3) := by decide +kernel
theorem dX5_down_28 : decode cX5_down 28 = .ok (.dup, 1) := by decide +kernel
theorem dX5_down_29 : decode cX5_down 29 = .ok (.getfield 92, 3) := by decide +kernel
theorem dX5_down_32 : decode cX5_down 32 = .ok (.iconst 1, 1) := by decide +kernel
theorem dX5_down_33 : decode cX5_down 33 = .ok (.iload_n 1, 1) := by decide +kernel
theorem dX5_down_34 : decode cX5_down 34 = .ok (.ishl, 1) := by decide +kernel
theorem dX5_down_35 : decode cX5_down 35 = .ok (.ixor, 1) := by decide +kernel
theorem dX5_down_36 : decode cX5_down 36 = .ok (.putfield 92, 3) := by decide +kernel
theorem dX5_down_39 : decode cX5_down 39 = .ok (.iconst 1, 1) := by decide +kernel
theorem dX5_down_40 : decode cX5_down 40 = .ok (.ireturn, 1) := by decide +kernel
set_option maxRecDepth 20000 in
theorem dX5_turn_0 : decode cX5_turn 0 = .ok (.aload_n 0, 1) := by decide +kernel
theorem dX5_turn_1 : decode cX5_turn 1 = .ok (.iload_n 1, 1) := by decide +kernel
theorem dX5_turn_2 : decode cX5_turn 2 = .ok (.invokevirtual 70, 3) := by decide +kernel
theorem dX5_turn_5 : decode cX5_turn 5 = .ok (.ifCond .eq 23, 3) := by decide +kernel
theorem dX5_turn_8 : decode cX5_turn 8 = .ok (.aload_n 0, 1) := by decide +kernel
theorem dX5_turn_9 : decode cX5_turn 9 = .ok (.getfield 31, 3) := by decide +kernel
theorem dX5_turn_12 : decode cX5_turn 12 = .ok (.bipush 16, 2) := by decide +kernel
theorem dX5_turn_14 : decode cX5_turn 14 = .ok (.invokevirtual 89, 3) := by decide +kernel
theorem dX5_turn_17 : decode cX5_turn 17 = .ok (.ifCond .ne 11, 3) := by decide +kernel
theorem dX5_turn_20 : decode cX5_turn 20 = .ok (.aload_n 0, 1) := by decide +kernel
theorem dX5_turn_21 : decode cX5_turn 21 = .ok (.iload_n 1, 1) := by decide +kernel
theorem dX5_turn_22 : decode cX5_turn 22 = .ok (.invokevirtual 95, 3) := by decide +kernel
theorem dX5_turn_25 : decode cX5_turn 25 = .ok (.ifCond .eq 5, 3) := by decide +kernel
theorem dX5_turn_28 : decode cX5_turn 28 = .ok (.iconst (-1), 1) := by decide +kernel
theorem dX5_turn_29 : decode cX5_turn 29 = .ok (.ireturn, 1) := by decide +kernel
theorem dX5_turn_30 : decode cX5_turn 30 = .ok (.aload_n 0, 1) := by decide +kernel
theorem dX5_turn_31 : decode cX5_turn 31 = .ok (.iload_n 1, 1) := by decide +kernel
theorem dX5_turn_32 : decode cX5_turn 32 = .ok (.iconst 0, 1) := by decide +kernel
theorem dX5_turn_33 : decode cX5_turn 33 = .ok (.invokevirtual 98, 3) := by decide +kernel
theorem dX5_turn_36 : decode cX5_turn 36 = .ok (.aload_n 0, 1) := by decide +kernel
theorem dX5_turn_37 : decode cX5_turn 37 = .ok (.getfield 11, 3) := by decide +kernel
theorem dX5_turn_40 : decode cX5_turn 40 = .ok (.iload_n 1, 1) := by decide +kernel
theorem dX5_turn_41 : decode cX5_turn 41 = .ok (.aaload, 1) := by decide +kernel
theorem dX5_turn_42 : decode cX5_turn 42 = .ok (.getfield 102, 3) := by decide +kernel
theorem dX5_turn_45 : decode cX5_turn 45 = .ok (.ireturn, 1) := by decide +kernel
set_option maxRecDepth 20000 in
theorem dX5_stolen_0 : decode cX5_stolen 0 = .ok (.aload_n 0, 1) := by decide +kernel
theorem dX5_stolen_1 : decode cX5_stolen 1 = .ok (.iload_n 1, 1) := by decide +kernel
theorem dX5_stolen_2 : decode cX5_stolen 2 = .ok (.invokevirtual 70, 3) := by decide +kernel
theorem dX5_stolen_5 : decode cX5_stolen 5 = .ok (.ifCond .eq 15, 3) := by decide +kernel
theorem dX5_stolen_8 : decode cX5_stolen 8 = .ok (.aload_n 0, 1) := by decide +kernel
theorem dX5_stolen_9 : decode cX5_stolen 9 = .ok (.getfield 31, 3) := by decide +kernel
theorem dX5_stolen_12 : decode cX5_stolen 12 = .ok (.bipush 16, 2) := by decide +kernel
theorem dX5_stolen_14 : decode cX5_stolen 14 = .ok (.invokevirtual 89, 3) := by decide +kernel
theorem dX5_stolen_17 : decode cX5_stolen 17 = .ok (.ifCond .eq 5, 3) := by decide +kernel
theorem dX5_stolen_20 : decode cX5_stolen 20 = .ok (.iconst (-1), 1) := by decide +kernel
theorem dX5_stolen_21 : decode cX5_stolen 21 = .ok (.ireturn, 1) := by decide +kernel
theorem dX5_stolen_22 : decode cX5_stolen 22 = .ok (.aload_n 0, 1) := by decide +kernel
theorem dX5_stolen_23 : decode cX5_stolen 23 = .ok (.getfield 17, 3) := by decide +kernel
theorem dX5_stolen_26 : decode cX5_stolen 26 = .ok (.iload_n 1, 1) := by decide +kernel
theorem dX5_stolen_27 : decode cX5_stolen 27 = .ok (.aaload, 1) := by decide +kernel
theorem dX5_stolen_28 : decode cX5_stolen 28 = .ok (.astore_n 2, 1) := by decide +kernel
theorem dX5_stolen_29 : decode cX5_stolen 29 = .ok (.aload_n 2, 1) := by decide +kernel
theorem dX5_stolen_30 : decode cX5_stolen 30 = .ok (.invokevirtual 105, 3) := by decide +kernel
theorem dX5_stolen_33 : decode cX5_stolen 33 = .ok (.ifCond .eq 29, 3) := by decide +kernel
theorem dX5_stolen_36 : decode cX5_stolen 36 = .ok (.aload_n 2, 1) := by decide +kernel
theorem dX5_stolen_37 : decode cX5_stolen 37 = .ok (.aload_n 0, 1) := by decide +kernel
theorem dX5_stolen_38 : decode cX5_stolen 38 = .ok (.getfield 46, 3) := by decide +kernel
theorem dX5_stolen_41 : decode cX5_stolen 41 = .ok (.aload_n 0, 1) := by decide +kernel
theorem dX5_stolen_42 : decode cX5_stolen 42 = .ok (.getfield 31, 3) := by decide +kernel
theorem dX5_stolen_45 : decode cX5_stolen 45 = .ok (.invokevirtual 109, 3) := by decide +kernel
theorem dX5_stolen_48 : decode cX5_stolen 48 = .ok (.aload_n 0, 1) := by decide +kernel
theorem dX5_stolen_49 : decode cX5_stolen 49 = .ok (.getfield 38, 3) := by decide +kernel
theorem dX5_stolen_52 : decode cX5_stolen 52 = .ok (.aload_n 2, 1) := by decide +kernel
theorem dX5_stolen_53 : decode cX5_stolen 53 = .ok (.getfield 113, 3) := by decide +kernel
theorem dX5_stolen_56 : decode cX5_stolen 56 = .ok (.invokevirtual 116, 3) := by decide +kernel
theorem dX5_stolen_59 : decode cX5_stolen 59 = .ok (.goto 9, 3) := by decide +kernel
theorem dX5_stolen_62 : decode cX5_stolen 62 = .ok (.aload_n 0, 1) := by decide +kernel
theorem dX5_stolen_63 : decode cX5_stolen 63 = .ok (.iload_n 1, 1) := by decide +kernel
theorem dX5_stolen_64 : decode cX5_stolen 64 = .ok (.iconst 1, 1) := by decide +kernel
theorem dX5_stolen_65 : decode cX5_stolen 65 = .ok (.invokevirtual 98, 3) := by decide +kernel
theorem dX5_stolen_68 : decode cX5_stolen 68 = .ok (.aload_n 0, 1) := by decide +kernel
theorem dX5_stolen_69 : decode cX5_stolen 69 = .ok (.getfield 11, 3) := by decide +kernel
theorem dX5_stolen_72 : decode cX5_stolen 72 = .ok (.iload_n 1, 1) := by decide +kernel
theorem dX5_stolen_73 : decode cX5_stolen 73 = .ok (.aaload, 1) := by decide +kernel
theorem dX5_stolen_74 : decode cX5_stolen 74 = .ok (.getfield 102, 3) := by decide +kernel
theorem dX5_stolen_77 : decode cX5_stolen 77 = .ok (.ireturn, 1) := by decide +kernel
set_option maxRecDepth 20000 in
theorem dX5_tick_0 : decode cX5_tick 0 = .ok (.iload_n 1, 1) := by decide +kernel
theorem dX5_tick_1 : decode cX5_tick 1 = .ok (.ifCond .lt 21, 3) := by decide +kernel
theorem dX5_tick_4 : decode cX5_tick 4 = .ok (.iload_n 1, 1) := by decide +kernel
theorem dX5_tick_5 : decode cX5_tick 5 = .ok (.sipush 2000, 3) := by decide +kernel
end
section
theorem dX5_tick_8 : decode cX5_tick 8 = .ok (.if_icmp .gt 14, 3) := by decide +kernel
theorem dX5_tick_11 : decode cX5_tick 11 = .ok (.iload_n 1, 1) := by decide +kernel
theorem dX5_tick_12 : decode cX5_tick 12 = .ok (.ldc 120, 2) := by decide +kernel
theorem dX5_tick_14 : decode cX5_tick 14 = .ok (.aload_n 0, 1) := by decide +kernel
theorem dX5_tick_15 : decode cX5_tick 15 = .ok (.getfield 46, 3) := by decide +kernel
theorem dX5_tick_18 : decode cX5_tick 18 = .ok (.isub, 1) := by decide +kernel
theorem dX5_tick_19 : decode cX5_tick 19 = .ok (.if_icmp .le 5, 3) := by decide +kernel
theorem dX5_tick_22 : decode cX5_tick 22 = .ok (.iconst (-1), 1) := by decide +kernel
theorem dX5_tick_23 : decode cX5_tick 23 = .ok (.ireturn, 1) := by decide +kernel
theorem dX5_tick_24 : decode cX5_tick 24 = .ok (.aload_n 0, 1) := by decide +kernel
theorem dX5_tick_25 : decode cX5_tick 25 = .ok (.getfield 46, 3) := by decide +kernel
theorem dX5_tick_28 : decode cX5_tick 28 = .ok (.iload_n 1, 1) := by decide +kernel
theorem dX5_tick_29 : decode cX5_tick 29 = .ok (.iadd, 1) := by decide +kernel
theorem dX5_tick_30 : decode cX5_tick 30 = .ok (.istore_n 2, 1) := by decide +kernel
theorem dX5_tick_31 : decode cX5_tick 31 = .ok (.iconst 0, 1) := by decide +kernel
theorem dX5_tick_32 : decode cX5_tick 32 = .ok (.istore_n 3, 1) := by decide +kernel
theorem dX5_tick_33 : decode cX5_tick 33 = .ok (.iload_n 3, 1) := by decide +kernel
theorem dX5_tick_34 : decode cX5_tick 34 = .ok (.iload_n 1, 1) := by decide +kernel
theorem dX5_tick_35 : decode cX5_tick 35 = .ok (.if_icmp .ge 103, 3) := by decide +kernel
theorem dX5_tick_38 : decode cX5_tick 38 = .ok (.aload_n 0, 1) := by decide +kernel
theorem dX5_tick_39 : decode cX5_tick 39 = .ok (.getfield 46, 3) := by decide +kernel
theorem dX5_tick_42 : decode cX5_tick 42 = .ok (.iload_n 2, 1) := by decide +kernel
theorem dX5_tick_43 : decode cX5_tick 43 = .ok (.if_icmp .ge 95, 3) := by decide +kernel
theorem dX5_tick_46 : decode cX5_tick 46 = .ok (.aload_n 0, 1) := by decide +kernel
theorem dX5_tick_47 : decode cX5_tick 47 = .ok (.aload_n 0, 1) := by decide +kernel
theorem dX5_tick_48 : decode cX5_tick 48 = .ok (.iload_n 2, 1) := by decide +kernel
theorem dX5_tick_49 : decode cX5_tick 49 = .ok (.invokevirtual 121, 3) := by decide +kernel
theorem dX5_tick_52 : decode cX5_tick 52 = .ok (.putfield 46, 3) := by decide +kernel
theorem dX5_tick_55 : decode cX5_tick 55 = .ok (.iconst 0, 1) := by decide +kernel
theorem dX5_tick_56 : decode cX5_tick 56 = .ok (.istore 4, 2) := by decide +kernel
theorem dX5_tick_58 : decode cX5_tick 58 = .ok (.iload 4, 2) := by decide +kernel
theorem dX5_tick_60 : decode cX5_tick 60 = .ok (.aload_n 0, 1) := by decide +kernel
theorem dX5_tick_61 : decode cX5_tick 61 = .ok (.getfield 42, 3) := by decide +kernel
theorem dX5_tick_64 : decode cX5_tick 64 = .ok (.if_icmp .ge 27, 3) := by decide +kernel
theorem dX5_tick_67 : decode cX5_tick 67 = .ok (.aload_n 0, 1) := by decide +kernel
theorem dX5_tick_68 : decode cX5_tick 68 = .ok (.getfield 17, 3) := by decide +kernel
theorem dX5_tick_71 : decode cX5_tick 71 = .ok (.iload 4, 2) := by decide +kernel
theorem dX5_tick_73 : decode cX5_tick 73 = .ok (.aaload, 1) := by decide +kernel
theorem dX5_tick_74 : decode cX5_tick 74 = .ok (.aload_n 0, 1) := by decide +kernel
theorem dX5_tick_75 : decode cX5_tick 75 = .ok (.getfield 46, 3) := by decide +kernel
theorem dX5_tick_78 : decode cX5_tick 78 = .ok (.aload_n 0, 1) := by decide +kernel
theorem dX5_tick_79 : decode cX5_tick 79 = .ok (.getfield 31, 3) := by decide +kernel
theorem dX5_tick_82 : decode cX5_tick 82 = .ok (.invokevirtual 125, 3) := by decide +kernel
theorem dX5_tick_85 : decode cX5_tick 85 = .ok (.iinc 4 1, 3) := by decide +kernel
theorem dX5_tick_88 : decode cX5_tick 88 = .ok (.goto (-30), 3) := by decide +kernel
theorem dX5_tick_91 : decode cX5_tick 91 = .ok (.aload_n 0, 1) := by decide +kernel
theorem dX5_tick_92 : decode cX5_tick 92 = .ok (.getfield 31, 3) := by decide +kernel
theorem dX5_tick_95 : decode cX5_tick 95 = .ok (.bipush 16, 2) := by decide +kernel
theorem dX5_tick_97 : decode cX5_tick 97 = .ok (.invokevirtual 89, 3) := by decide +kernel
theorem dX5_tick_100 : decode cX5_tick 100 = .ok (.ifCond .ne 32, 3) := by decide +kernel
theorem dX5_tick_103 : decode cX5_tick 103 = .ok (.iconst 0, 1) := by decide +kernel
theorem dX5_tick_104 : decode cX5_tick 104 = .ok (.istore 4, 2) := by decide +kernel
theorem dX5_tick_106 : decode cX5_tick 106 = .ok (.iload 4, 2) := by decide +kernel
theorem dX5_tick_108 : decode cX5_tick 108 = .ok (.aload_n 0, 1) := by decide +kernel
theorem dX5_tick_109 : decode cX5_tick 109 = .ok (.getfield 42, 3) := by decide +kernel
theorem dX5_tick_112 : decode cX5_tick 112 = .ok (.if_icmp .ge 20, 3) := by decide +kernel
theorem dX5_tick_115 : decode cX5_tick 115 = .ok (.aload_n 0, 1) := by decide +kernel
theorem dX5_tick_116 : decode cX5_tick 116 = .ok (.aload_n 0, 1) := by decide +kernel
theorem dX5_tick_117 : decode cX5_tick 117 = .ok (.getfield 17, 3) := by decide +kernel
theorem dX5_tick_120 : decode cX5_tick 120 = .ok (.iload 4, 2) := by decide +kernel
theorem dX5_tick_122 : decode cX5_tick 122 = .ok (.aaload, 1) := by decide +kernel
theorem dX5_tick_123 : decode cX5_tick 123 = .ok (.invokevirtual 128, 3) := by decide +kernel
theorem dX5_tick_126 : decode cX5_tick 126 = .ok (.iinc 4 1, 3) := by decide +kernel
theorem dX5_tick_129 : decode cX5_tick 129 = .ok (.goto (-23), 3) := by decide +kernel
theorem dX5_tick_132 : decode cX5_tick 132 = .ok (.iinc 3 1, 3) := by decide +kernel
theorem dX5_tick_135 : decode cX5_tick 135 = .ok (.goto (-102), 3) := by decide +kernel
theorem dX5_tick_138 : decode cX5_tick 138 = .ok (.aload_n 0, 1) := by decide +kernel
theorem dX5_tick_139 : decode cX5_tick 139 = .ok (.getfield 46, 3) := by decide +kernel
theorem dX5_tick_142 : decode cX5_tick 142 = .ok (.ireturn, 1) := by decide +kernel
set_option maxRecDepth 20000 in
theorem dX5_ask_0 : decode cX5_ask 0 = .ok (.aload_n 0, 1) := by decide +kernel
theorem dX5_ask_1 : decode cX5_ask 1 = .ok (.iload_n 2, 1) := by decide +kernel
theorem dX5_ask_2 : decode cX5_ask 2 = .ok (.invokevirtual 70, 3) := by decide +kernel
theorem dX5_ask_5 : decode cX5_ask 5 = .ok (.ifCond .ne 5, 3) := by decide +kernel
theorem dX5_ask_8 : decode cX5_ask 8 = .ok (.iconst (-1), 1) := by decide +kernel
theorem dX5_ask_9 : decode cX5_ask 9 = .ok (.ireturn, 1) := by decide +kernel
theorem dX5_ask_10 : decode cX5_ask 10 = .ok (.aload_n 0, 1) := by decide +kernel
theorem dX5_ask_11 : decode cX5_ask 11 = .ok (.getfield 11, 3) := by decide +kernel
theorem dX5_ask_14 : decode cX5_ask 14 = .ok (.iload_n 2, 1) := by decide +kernel
theorem dX5_ask_15 : decode cX5_ask 15 = .ok (.aaload, 1) := by decide +kernel
theorem dX5_ask_16 : decode cX5_ask 16 = .ok (.astore 4, 2) := by decide +kernel
theorem dX5_ask_18 : decode cX5_ask 18 = .ok (.aload 4, 2) := by decide +kernel
theorem dX5_ask_20 : decode cX5_ask 20 = .ok (.getfield 132, 3) := by decide +kernel
theorem dX5_ask_23 : decode cX5_ask 23 = .ok (.iload_n 1, 1) := by decide +kernel
theorem dX5_ask_24 : decode cX5_ask 24 = .ok (.invokestatic 135, 3) := by decide +kernel
theorem dX5_ask_27 : decode cX5_ask 27 = .ok (.ifCond .eq 15, 3) := by decide +kernel
theorem dX5_ask_30 : decode cX5_ask 30 = .ok (.aload 4, 2) := by decide +kernel
theorem dX5_ask_32 : decode cX5_ask 32 = .ok (.getfield 138, 3) := by decide +kernel
theorem dX5_ask_35 : decode cX5_ask 35 = .ok (.iload_n 3, 1) := by decide +kernel
theorem dX5_ask_36 : decode cX5_ask 36 = .ok (.invokestatic 135, 3) := by decide +kernel
theorem dX5_ask_39 : decode cX5_ask 39 = .ok (.ifCond .ne 5, 3) := by decide +kernel
theorem dX5_ask_42 : decode cX5_ask 42 = .ok (.iconst (-1), 1) := by decide +kernel
theorem dX5_ask_43 : decode cX5_ask 43 = .ok (.ireturn, 1) := by decide +kernel
theorem dX5_ask_44 : decode cX5_ask 44 = .ok (.aload 4, 2) := by decide +kernel
theorem dX5_ask_46 : decode cX5_ask 46 = .ok (.iload_n 1, 1) := by decide +kernel
theorem dX5_ask_47 : decode cX5_ask 47 = .ok (.invokevirtual 141, 3) := by decide +kernel
theorem dX5_ask_50 : decode cX5_ask 50 = .ok (.istore 5, 2) := by decide +kernel
theorem dX5_ask_52 : decode cX5_ask 52 = .ok (.aload_n 0, 1) := by decide +kernel
theorem dX5_ask_53 : decode cX5_ask 53 = .ok (.getfield 31, 3) := by decide +kernel
theorem dX5_ask_56 : decode cX5_ask 56 = .ok (.iload_n 1, 1) := by decide +kernel
theorem dX5_ask_57 : decode cX5_ask 57 = .ok (.invokevirtual 89, 3) := by decide +kernel
theorem dX5_ask_60 : decode cX5_ask 60 = .ok (.ifCond .ne 19, 3) := by decide +kernel
theorem dX5_ask_63 : decode cX5_ask 63 = .ok (.aload_n 0, 1) := by decide +kernel
theorem dX5_ask_64 : decode cX5_ask 64 = .ok (.aload 4, 2) := by decide +kernel
theorem dX5_ask_66 : decode cX5_ask 66 = .ok (.iload_n 3, 1) := by decide +kernel
theorem dX5_ask_67 : decode cX5_ask 67 = .ok (.iload 5, 2) := by decide +kernel
theorem dX5_ask_69 : decode cX5_ask 69 = .ok (.invokevirtual 144, 3) := by decide +kernel
theorem dX5_ask_72 : decode cX5_ask 72 = .ok (.ifCond .eq 7, 3) := by decide +kernel
theorem dX5_ask_75 : decode cX5_ask 75 = .ok (.iconst 1, 1) := by decide +kernel
theorem dX5_ask_76 : decode cX5_ask 76 = .ok (.goto 4, 3) := by decide +kernel
theorem dX5_ask_79 : decode cX5_ask 79 = .ok (.iconst 0, 1) := by decide +kernel
theorem dX5_ask_80 : decode cX5_ask 80 = .ok (.istore 6, 2) := by decide +kernel
theorem dX5_ask_82 : decode cX5_ask 82 = .ok (.aload_n 0, 1) := by decide +kernel
theorem dX5_ask_83 : decode cX5_ask 83 = .ok (.aload_n 0, 1) := by decide +kernel
theorem dX5_ask_84 : decode cX5_ask 84 = .ok (.getfield 17, 3) := by decide +kernel
theorem dX5_ask_87 : decode cX5_ask 87 = .ok (.iload_n 2, 1) := by decide +kernel
theorem dX5_ask_88 : decode cX5_ask 88 = .ok (.aaload, 1) := by decide +kernel
theorem dX5_ask_89 : decode cX5_ask 89 = .ok (.iload_n 1, 1) := by decide +kernel
theorem dX5_ask_90 : decode cX5_ask 90 = .ok (.iload 5, 2) := by decide +kernel
theorem dX5_ask_92 : decode cX5_ask 92 = .ok (.iload 6, 2) := by decide +kernel
theorem dX5_ask_94 : decode cX5_ask 94 = .ok (.invokevirtual 148, 3) := by decide +kernel
theorem dX5_ask_97 : decode cX5_ask 97 = .ok (.ireturn, 1) := by decide +kernel
set_option maxRecDepth 20000 in
theorem dX5_stranger_0 : decode cX5_stranger 0 = .ok (.aload_n 0, 1) := by decide +kernel
theorem dX5_stranger_1 : decode cX5_stranger 1 = .ok (.iload_n 2, 1) := by decide +kernel
theorem dX5_stranger_2 : decode cX5_stranger 2 = .ok (.invokevirtual 70, 3) := by decide +kernel
theorem dX5_stranger_5 : decode cX5_stranger 5 = .ok (.ifCond .eq 13, 3) := by decide +kernel
theorem dX5_stranger_8 : decode cX5_stranger 8 = .ok (.iload_n 1, 1) := by decide +kernel
theorem dX5_stranger_9 : decode cX5_stranger 9 = .ok (.ifCond .lt 9, 3) := by decide +kernel
theorem dX5_stranger_12 : decode cX5_stranger 12 = .ok (.iload_n 1, 1) := by decide +kernel
theorem dX5_stranger_13 : decode cX5_stranger 13 = .ok (.bipush 10, 2) := by decide +kernel
theorem dX5_stranger_15 : decode cX5_stranger 15 = .ok (.if_icmp .lt 5, 3) := by decide +kernel
theorem dX5_stranger_18 : decode cX5_stranger 18 = .ok (.iconst (-1), 1) := by decide +kernel
theorem dX5_stranger_19 : decode cX5_stranger 19 = .ok (.ireturn, 1) := by decide +kernel
theorem dX5_stranger_20 : decode cX5_stranger 20 = .ok (.aload_n 0, 1) := by decide +kernel
theorem dX5_stranger_21 : decode cX5_stranger 21 = .ok (.getfield 11, 3) := by decide +kernel
theorem dX5_stranger_24 : decode cX5_stranger 24 = .ok (.iload_n 2, 1) := by decide +kernel
theorem dX5_stranger_25 : decode cX5_stranger 25 = .ok (.aaload, 1) := by decide +kernel
theorem dX5_stranger_26 : decode cX5_stranger 26 = .ok (.astore 5, 2) := by decide +kernel
theorem dX5_stranger_28 : decode cX5_stranger 28 = .ok (.aload 5, 2) := by decide +kernel
theorem dX5_stranger_30 : decode cX5_stranger 30 = .ok (.getfield 132, 3) := by decide +kernel
theorem dX5_stranger_33 : decode cX5_stranger 33 = .ok (.iload_n 1, 1) := by decide +kernel
theorem dX5_stranger_34 : decode cX5_stranger 34 = .ok (.invokestatic 135, 3) := by decide +kernel
theorem dX5_stranger_37 : decode cX5_stranger 37 = .ok (.ifCond .ne 30, 3) := by decide +kernel
theorem dX5_stranger_40 : decode cX5_stranger 40 = .ok (.aload 5, 2) := by decide +kernel
theorem dX5_stranger_42 : decode cX5_stranger 42 = .ok (.getfield 138, 3) := by decide +kernel
theorem dX5_stranger_45 : decode cX5_stranger 45 = .ok (.iload_n 3, 1) := by decide +kernel
theorem dX5_stranger_46 : decode cX5_stranger 46 = .ok (.invokestatic 135, 3) := by decide +kernel
theorem dX5_stranger_49 : decode cX5_stranger 49 = .ok (.ifCond .eq 18, 3) := by decide +kernel
theorem dX5_stranger_52 : decode cX5_stranger 52 = .ok (.iload 4, 2) := by decide +kernel
theorem dX5_stranger_54 : decode cX5_stranger 54 = .ok (.ifCond .lt 13, 3) := by decide +kernel
theorem dX5_stranger_57 : decode cX5_stranger 57 = .ok (.iload 4, 2) := by decide +kernel
theorem dX5_stranger_59 : decode cX5_stranger 59 = .ok (.aload 5, 2) := by decide +kernel
theorem dX5_stranger_61 : decode cX5_stranger 61 = .ok (.getfield 102, 3) := by decide +kernel
theorem dX5_stranger_64 : decode cX5_stranger 64 = .ok (.if_icmp .le 5, 3) := by decide +kernel
theorem dX5_stranger_67 : decode cX5_stranger 67 = .ok (.iconst (-1), 1) := by decide +kernel
theorem dX5_stranger_68 : decode cX5_stranger 68 = .ok (.ireturn, 1) := by decide +kernel
theorem dX5_stranger_69 : decode cX5_stranger 69 = .ok (.aload_n 0, 1) := by decide +kernel
theorem dX5_stranger_70 : decode cX5_stranger 70 = .ok (.aload_n 0, 1) := by decide +kernel
theorem dX5_stranger_71 : decode cX5_stranger 71 = .ok (.getfield 17, 3) := by decide +kernel
theorem dX5_stranger_74 : decode cX5_stranger 74 = .ok (.iload_n 2, 1) := by decide +kernel
theorem dX5_stranger_75 : decode cX5_stranger 75 = .ok (.aaload, 1) := by decide +kernel
theorem dX5_stranger_76 : decode cX5_stranger 76 = .ok (.iload_n 1, 1) := by decide +kernel
theorem dX5_stranger_77 : decode cX5_stranger 77 = .ok (.iload 4, 2) := by decide +kernel
theorem dX5_stranger_79 : decode cX5_stranger 79 = .ok (.aload_n 0, 1) := by decide +kernel
theorem dX5_stranger_80 : decode cX5_stranger 80 = .ok (.aload 5, 2) := by decide +kernel
theorem dX5_stranger_82 : decode cX5_stranger 82 = .ok (.iload_n 3, 1) := by decide +kernel
theorem dX5_stranger_83 : decode cX5_stranger 83 = .ok (.iload 4, 2) := by decide +kernel
theorem dX5_stranger_85 : decode cX5_stranger 85 = .ok (.invokevirtual 144, 3) := by decide +kernel
theorem dX5_stranger_88 : decode cX5_stranger 88 = .ok (.invokevirtual 148, 3) := by decide +kernel
theorem dX5_stranger_91 : decode cX5_stranger 91 = .ok (.ireturn, 1) := by decide +kernel
set_option maxRecDepth 20000 in
theorem dX5_told_0 : decode cX5_told 0 = .ok (.aload_n 0, 1) := by decide +kernel
theorem dX5_told_1 : decode cX5_told 1 = .ok (.iload_n 1, 1) := by decide +kernel
theorem dX5_told_2 : decode cX5_told 2 = .ok (.invokevirtual 70, 3) := by decide +kernel
theorem dX5_told_5 : decode cX5_told 5 = .ok (.ifCond .ne 5, 3) := by decide +kernel
theorem dX5_told_8 : decode cX5_told 8 = .ok (.iconst (-1), 1) := by decide +kernel
theorem dX5_told_9 : decode cX5_told 9 = .ok (.ireturn, 1) := by decide +kernel
theorem dX5_told_10 : decode cX5_told 10 = .ok (.aload_n 0, 1) := by decide +kernel
theorem dX5_told_11 : decode cX5_told 11 = .ok (.getfield 11, 3) := by decide +kernel
theorem dX5_told_14 : decode cX5_told 14 = .ok (.iload_n 1, 1) := by decide +kernel
theorem dX5_told_15 : decode cX5_told 15 = .ok (.aaload, 1) := by decide +kernel
theorem dX5_told_16 : decode cX5_told 16 = .ok (.astore_n 3, 1) := by decide +kernel
theorem dX5_told_17 : decode cX5_told 17 = .ok (.aload_n 0, 1) := by decide +kernel
theorem dX5_told_18 : decode cX5_told 18 = .ok (.getfield 17, 3) := by decide +kernel
theorem dX5_told_21 : decode cX5_told 21 = .ok (.iload_n 1, 1) := by decide +kernel
theorem dX5_told_22 : decode cX5_told 22 = .ok (.aaload, 1) := by decide +kernel
theorem dX5_told_23 : decode cX5_told 23 = .ok (.astore 4, 2) := by decide +kernel
theorem dX5_told_25 : decode cX5_told 25 = .ok (.iload_n 2, 1) := by decide +kernel
theorem dX5_told_26 : decode cX5_told 26 = .ok (.tableswitch 143 0 11 #[62, 67, 72, 77, 82, 87, 93, 98, 108, 114, 119, 125], 62) := by decide +kernel
theorem dX5_told_88 : decode cX5_told 88 = .ok (.aload_n 3, 1) := by decide +kernel
theorem dX5_told_89 : decode cX5_told 89 = .ok (.getfield 152, 3) := by decide +kernel
theorem dX5_told_92 : decode cX5_told 92 = .ok (.ireturn, 1) := by decide +kernel
theorem dX5_told_93 : decode cX5_told 93 = .ok (.aload_n 3, 1) := by decide +kernel
theorem dX5_told_94 : decode cX5_told 94 = .ok (.getfield 132, 3) := by decide +kernel
theorem dX5_told_97 : decode cX5_told 97 = .ok (.ireturn, 1) := by decide +kernel
theorem dX5_told_98 : decode cX5_told 98 = .ok (.aload_n 3, 1) := by decide +kernel
theorem dX5_told_99 : decode cX5_told 99 = .ok (.getfield 138, 3) := by decide +kernel
theorem dX5_told_102 : decode cX5_told 102 = .ok (.ireturn, 1) := by decide +kernel
theorem dX5_told_103 : decode cX5_told 103 = .ok (.aload_n 3, 1) := by decide +kernel
theorem dX5_told_104 : decode cX5_told 104 = .ok (.getfield 155, 3) := by decide +kernel
theorem dX5_told_107 : decode cX5_told 107 = .ok (.ireturn, 1) := by decide +kernel
theorem dX5_told_108 : decode cX5_told 108 = .ok (.aload_n 3, 1) := by decide +kernel
theorem dX5_told_109 : decode cX5_told 109 = .ok (.getfield 102, 3) := by decide +kernel
theorem dX5_told_112 : decode cX5_told 112 = .ok (.ireturn, 1) := by decide +kernel
theorem dX5_told_113 : decode cX5_told 113 = .ok (.aload 4, 2) := by decide +kernel
theorem dX5_told_115 : decode cX5_told 115 = .ok (.getfield 158, 3) := by decide +kernel
theorem dX5_told_118 : decode cX5_told 118 = .ok (.ireturn, 1) := by decide +kernel
theorem dX5_told_119 : decode cX5_told 119 = .ok (.aload_n 3, 1) := by decide +kernel
theorem dX5_told_120 : decode cX5_told 120 = .ok (.getfield 161, 3) := by decide +kernel
theorem dX5_told_123 : decode cX5_told 123 = .ok (.ireturn, 1) := by decide +kernel
theorem dX5_told_124 : decode cX5_told 124 = .ok (.aload_n 0, 1) := by decide +kernel
theorem dX5_told_125 : decode cX5_told 125 = .ok (.getfield 46, 3) := by decide +kernel
theorem dX5_told_128 : decode cX5_told 128 = .ok (.aload_n 3, 1) := by decide +kernel
theorem dX5_told_129 : decode cX5_told 129 = .ok (.invokevirtual 164, 3) := by decide +kernel
theorem dX5_told_132 : decode cX5_told 132 = .ok (.isub, 1) := by decide +kernel
theorem dX5_told_133 : decode cX5_told 133 = .ok (.ireturn, 1) := by decide +kernel
theorem dX5_told_134 : decode cX5_told 134 = .ok (.aload 4, 2) := by decide +kernel
theorem dX5_told_136 : decode cX5_told 136 = .ok (.getfield 168, 3) := by decide +kernel
theorem dX5_told_139 : decode cX5_told 139 = .ok (.ireturn, 1) := by decide +kernel
theorem dX5_told_140 : decode cX5_told 140 = .ok (.aload_n 3, 1) := by decide +kernel
theorem dX5_told_141 : decode cX5_told 141 = .ok (.invokevirtual 171, 3) := by decide +kernel
theorem dX5_told_144 : decode cX5_told 144 = .ok (.ireturn, 1) := by decide +kernel
theorem dX5_told_145 : decode cX5_told 145 = .ok (.aload 4, 2) := by decide +kernel
theorem dX5_told_147 : decode cX5_told 147 = .ok (.invokevirtual 174, 3) := by decide +kernel
theorem dX5_told_150 : decode cX5_told 150 = .ok (.ireturn, 1) := by decide +kernel
theorem dX5_told_151 : decode cX5_told 151 = .ok (.aload 4, 2) := by decide +kernel
theorem dX5_told_153 : decode cX5_told 153 = .ok (.invokevirtual 105, 3) := by decide +kernel
theorem dX5_told_156 : decode cX5_told 156 = .ok (.ifCond .eq 11, 3) := by decide +kernel
theorem dX5_told_159 : decode cX5_told 159 = .ok (.aload 4, 2) := by decide +kernel
theorem dX5_told_161 : decode cX5_told 161 = .ok (.getfield 177, 3) := by decide +kernel
theorem dX5_told_164 : decode cX5_told 164 = .ok (.goto 4, 3) := by decide +kernel
theorem dX5_told_167 : decode cX5_told 167 = .ok (.iconst (-1), 1) := by decide +kernel
theorem dX5_told_168 : decode cX5_told 168 = .ok (.ireturn, 1) := by decide +kernel
theorem dX5_told_169 : decode cX5_told 169 = .ok (.iconst (-1), 1) := by decide +kernel
theorem dX5_told_170 : decode cX5_told 170 = .ok (.ireturn, 1) := by decide +kernel
set_option maxRecDepth 20000 in
theorem dX5_has_0 : decode cX5_has 0 = .ok (.aload_n 0, 1) := by decide +kernel
theorem dX5_has_1 : decode cX5_has 1 = .ok (.iload_n 2, 1) := by decide +kernel
theorem dX5_has_2 : decode cX5_has 2 = .ok (.invokevirtual 70, 3) := by decide +kernel
theorem dX5_has_5 : decode cX5_has 5 = .ok (.ifCond .eq 19, 3) := by decide +kernel
theorem dX5_has_8 : decode cX5_has 8 = .ok (.aload_n 0, 1) := by decide +kernel
theorem dX5_has_9 : decode cX5_has 9 = .ok (.getfield 11, 3) := by decide +kernel
theorem dX5_has_12 : decode cX5_has 12 = .ok (.iload_n 2, 1) := by decide +kernel
theorem dX5_has_13 : decode cX5_has 13 = .ok (.aaload, 1) := by decide +kernel
theorem dX5_has_14 : decode cX5_has 14 = .ok (.getfield 132, 3) := by decide +kernel
theorem dX5_has_17 : decode cX5_has 17 = .ok (.iload_n 1, 1) := by decide +kernel
theorem dX5_has_18 : decode cX5_has 18 = .ok (.invokestatic 135, 3) := by decide +kernel
theorem dX5_has_21 : decode cX5_has 21 = .ok (.ifCond .ne 5, 3) := by decide +kernel
theorem dX5_has_24 : decode cX5_has 24 = .ok (.iconst (-1), 1) := by decide +kernel
theorem dX5_has_25 : decode cX5_has 25 = .ok (.ireturn, 1) := by decide +kernel
theorem dX5_has_26 : decode cX5_has 26 = .ok (.aload_n 0, 1) := by decide +kernel
theorem dX5_has_27 : decode cX5_has 27 = .ok (.getfield 11, 3) := by decide +kernel
theorem dX5_has_30 : decode cX5_has 30 = .ok (.iload_n 2, 1) := by decide +kernel
theorem dX5_has_31 : decode cX5_has 31 = .ok (.aaload, 1) := by decide +kernel
theorem dX5_has_32 : decode cX5_has 32 = .ok (.iload_n 1, 1) := by decide +kernel
theorem dX5_has_33 : decode cX5_has 33 = .ok (.invokevirtual 141, 3) := by decide +kernel
theorem dX5_has_36 : decode cX5_has 36 = .ok (.ireturn, 1) := by decide +kernel
set_option maxRecDepth 20000 in
theorem dX5_good_0 : decode cX5_good 0 = .ok (.aload_n 0, 1) := by decide +kernel
theorem dX5_good_1 : decode cX5_good 1 = .ok (.iload_n 2, 1) := by decide +kernel
theorem dX5_good_2 : decode cX5_good 2 = .ok (.invokevirtual 70, 3) := by decide +kernel
theorem dX5_good_5 : decode cX5_good 5 = .ok (.ifCond .eq 19, 3) := by decide +kernel
theorem dX5_good_8 : decode cX5_good 8 = .ok (.aload_n 0, 1) := by decide +kernel
theorem dX5_good_9 : decode cX5_good 9 = .ok (.getfield 11, 3) := by decide +kernel
theorem dX5_good_12 : decode cX5_good 12 = .ok (.iload_n 2, 1) := by decide +kernel
theorem dX5_good_13 : decode cX5_good 13 = .ok (.aaload, 1) := by decide +kernel
theorem dX5_good_14 : decode cX5_good 14 = .ok (.getfield 138, 3) := by decide +kernel
theorem dX5_good_17 : decode cX5_good 17 = .ok (.iload_n 1, 1) := by decide +kernel
theorem dX5_good_18 : decode cX5_good 18 = .ok (.invokestatic 135, 3) := by decide +kernel
theorem dX5_good_21 : decode cX5_good 21 = .ok (.ifCond .ne 5, 3) := by decide +kernel
theorem dX5_good_24 : decode cX5_good 24 = .ok (.iconst (-1), 1) := by decide +kernel
theorem dX5_good_25 : decode cX5_good 25 = .ok (.ireturn, 1) := by decide +kernel
theorem dX5_good_26 : decode cX5_good 26 = .ok (.aload_n 0, 1) := by decide +kernel
theorem dX5_good_27 : decode cX5_good 27 = .ok (.getfield 11, 3) := by decide +kernel
theorem dX5_good_30 : decode cX5_good 30 = .ok (.iload_n 2, 1) := by decide +kernel
theorem dX5_good_31 : decode cX5_good 31 = .ok (.aaload, 1) := by decide +kernel
theorem dX5_good_32 : decode cX5_good 32 = .ok (.iload_n 1, 1) := by decide +kernel
theorem dX5_good_33 : decode cX5_good 33 = .ok (.iload_n 3, 1) := by decide +kernel
theorem dX5_good_34 : decode cX5_good 34 = .ok (.invokevirtual 180, 3) := by decide +kernel
theorem dX5_good_37 : decode cX5_good 37 = .ok (.ifCond .eq 7, 3) := by decide +kernel
theorem dX5_good_40 : decode cX5_good 40 = .ok (.iconst 1, 1) := by decide +kernel
theorem dX5_good_41 : decode cX5_good 41 = .ok (.goto 4, 3) := by decide +kernel
theorem dX5_good_44 : decode cX5_good 44 = .ok (.iconst 0, 1) := by decide +kernel
theorem dX5_good_45 : decode cX5_good 45 = .ok (.ireturn, 1) := by decide +kernel
set_option maxRecDepth 20000 in
theorem dX5_plan_0 : decode cX5_plan 0 = .ok (.iload_n 1, 1) := by decide +kernel
theorem dX5_plan_1 : decode cX5_plan 1 = .ok (.ifCond .lt 11, 3) := by decide +kernel
theorem dX5_plan_4 : decode cX5_plan 4 = .ok (.iload_n 1, 1) := by decide +kernel
theorem dX5_plan_5 : decode cX5_plan 5 = .ok (.aload_n 0, 1) := by decide +kernel
theorem dX5_plan_6 : decode cX5_plan 6 = .ok (.getfield 42, 3) := by decide +kernel
theorem dX5_plan_9 : decode cX5_plan 9 = .ok (.if_icmp .lt 5, 3) := by decide +kernel
theorem dX5_plan_12 : decode cX5_plan 12 = .ok (.iconst (-1), 1) := by decide +kernel
theorem dX5_plan_13 : decode cX5_plan 13 = .ok (.ireturn, 1) := by decide +kernel
theorem dX5_plan_14 : decode cX5_plan 14 = .ok (.iconst 0, 1) := by decide +kernel
theorem dX5_plan_15 : decode cX5_plan 15 = .ok (.istore_n 2, 1) := by decide +kernel
theorem dX5_plan_16 : decode cX5_plan 16 = .ok (.iconst (-1), 1) := by decide +kernel
theorem dX5_plan_17 : decode cX5_plan 17 = .ok (.istore_n 3, 1) := by decide +kernel
theorem dX5_plan_18 : decode cX5_plan 18 = .ok (.iconst 0, 1) := by decide +kernel
theorem dX5_plan_19 : decode cX5_plan 19 = .ok (.istore 4, 2) := by decide +kernel
theorem dX5_plan_21 : decode cX5_plan 21 = .ok (.iload 4, 2) := by decide +kernel
theorem dX5_plan_23 : decode cX5_plan 23 = .ok (.iload_n 1, 1) := by decide +kernel
theorem dX5_plan_24 : decode cX5_plan 24 = .ok (.if_icmp .gt 28, 3) := by decide +kernel
theorem dX5_plan_27 : decode cX5_plan 27 = .ok (.aload_n 0, 1) := by decide +kernel
theorem dX5_plan_28 : decode cX5_plan 28 = .ok (.iload_n 2, 1) := by decide +kernel
theorem dX5_plan_29 : decode cX5_plan 29 = .ok (.invokevirtual 183, 3) := by decide +kernel
theorem dX5_plan_32 : decode cX5_plan 32 = .ok (.istore_n 3, 1) := by decide +kernel
theorem dX5_plan_33 : decode cX5_plan 33 = .ok (.iload_n 3, 1) := by decide +kernel
theorem dX5_plan_34 : decode cX5_plan 34 = .ok (.iconst (-1), 1) := by decide +kernel
theorem dX5_plan_35 : decode cX5_plan 35 = .ok (.if_icmp .ne 5, 3) := by decide +kernel
theorem dX5_plan_38 : decode cX5_plan 38 = .ok (.iconst (-1), 1) := by decide +kernel
theorem dX5_plan_39 : decode cX5_plan 39 = .ok (.ireturn, 1) := by decide +kernel
theorem dX5_plan_40 : decode cX5_plan 40 = .ok (.iload_n 2, 1) := by decide +kernel
theorem dX5_plan_41 : decode cX5_plan 41 = .ok (.iconst 1, 1) := by decide +kernel
theorem dX5_plan_42 : decode cX5_plan 42 = .ok (.iload_n 3, 1) := by decide +kernel
theorem dX5_plan_43 : decode cX5_plan 43 = .ok (.ishl, 1) := by decide +kernel
theorem dX5_plan_44 : decode cX5_plan 44 = .ok (.ior, 1) := by decide +kernel
theorem dX5_plan_45 : decode cX5_plan 45 = .ok (.istore_n 2, 1) := by decide +kernel
theorem dX5_plan_46 : decode cX5_plan 46 = .ok (.iinc 4 1, 3) := by decide +kernel
theorem dX5_plan_49 : decode cX5_plan 49 = .ok (.goto (-28), 3) := by decide +kernel
theorem dX5_plan_52 : decode cX5_plan 52 = .ok (.iload_n 3, 1) := by decide +kernel
theorem dX5_plan_53 : decode cX5_plan 53 = .ok (.ireturn, 1) := by decide +kernel
set_option maxRecDepth 20000 in
theorem dX5_hangs_0 : decode cX5_hangs 0 = .ok (.aload_n 0, 1) := by decide +kernel
theorem dX5_hangs_1 : decode cX5_hangs 1 = .ok (.iload_n 1, 1) := by decide +kernel
theorem dX5_hangs_2 : decode cX5_hangs 2 = .ok (.invokevirtual 70, 3) := by decide +kernel
theorem dX5_hangs_5 : decode cX5_hangs 5 = .ok (.ifCond .eq 27, 3) := by decide +kernel
theorem dX5_hangs_8 : decode cX5_hangs 8 = .ok (.aload_n 0, 1) := by decide +kernel
theorem dX5_hangs_9 : decode cX5_hangs 9 = .ok (.iload_n 2, 1) := by decide +kernel
theorem dX5_hangs_10 : decode cX5_hangs 10 = .ok (.invokevirtual 70, 3) := by decide +kernel
theorem dX5_hangs_13 : decode cX5_hangs 13 = .ok (.ifCond .eq 19, 3) := by decide +kernel
theorem dX5_hangs_16 : decode cX5_hangs 16 = .ok (.aload_n 0, 1) := by decide +kernel
theorem dX5_hangs_17 : decode cX5_hangs 17 = .ok (.getfield 24, 3) := by decide +kernel
theorem dX5_hangs_20 : decode cX5_hangs 20 = .ok (.iload_n 1, 1) := by decide +kernel
theorem dX5_hangs_21 : decode cX5_hangs 21 = .ok (.iload_n 2, 1) := by decide +kernel
theorem dX5_hangs_22 : decode cX5_hangs 22 = .ok (.invokevirtual 78, 3) := by decide +kernel
theorem dX5_hangs_25 : decode cX5_hangs 25 = .ok (.ifCond .eq 7, 3) := by decide +kernel
theorem dX5_hangs_28 : decode cX5_hangs 28 = .ok (.iconst 1, 1) := by decide +kernel
theorem dX5_hangs_29 : decode cX5_hangs 29 = .ok (.goto 4, 3) := by decide +kernel
theorem dX5_hangs_32 : decode cX5_hangs 32 = .ok (.iconst 0, 1) := by decide +kernel
theorem dX5_hangs_33 : decode cX5_hangs 33 = .ok (.ireturn, 1) := by decide +kernel
set_option maxRecDepth 20000 in
theorem dX5_turned_0 : decode cX5_turned 0 = .ok (.aload_n 0, 1) := by decide +kernel
theorem dX5_turned_1 : decode cX5_turned 1 = .ok (.getfield 38, 3) := by decide +kernel
theorem dX5_turned_4 : decode cX5_turned 4 = .ok (.iload_n 1, 1) := by decide +kernel
theorem dX5_turned_5 : decode cX5_turned 5 = .ok (.invokevirtual 186, 3) := by decide +kernel
theorem dX5_turned_8 : decode cX5_turned 8 = .ok (.ifCond .eq 12, 3) := by decide +kernel
theorem dX5_turned_11 : decode cX5_turned 11 = .ok (.iload_n 2, 1) := by decide +kernel
theorem dX5_turned_12 : decode cX5_turned 12 = .ok (.ifCond .lt 8, 3) := by decide +kernel
theorem dX5_turned_15 : decode cX5_turned 15 = .ok (.iload_n 2, 1) := by decide +kernel
theorem dX5_turned_16 : decode cX5_turned 16 = .ok (.iconst 5, 1) := by decide +kernel
theorem dX5_turned_17 : decode cX5_turned 17 = .ok (.if_icmp .lt 13, 3) := by decide +kernel
theorem dX5_turned_20 : decode cX5_turned 20 = .ok (.new 189, 3) := by decide +kernel
theorem dX5_turned_23 : decode cX5_turned 23 = .ok (.dup, 1) := by decide +kernel
theorem dX5_turned_24 : decode cX5_turned 24 = .ok (.ldc 191, 2) := by decide +kernel
theorem dX5_turned_26 : decode cX5_turned 26 = .ok (.invokespecial 193, 3) := by decide +kernel
theorem dX5_turned_29 : decode cX5_turned 29 = .ok (.athrow, 1) := by decide +kernel
theorem dX5_turned_30 : decode cX5_turned 30 = .ok (.aload_n 0, 1) := by decide +kernel
theorem dX5_turned_31 : decode cX5_turned 31 = .ok (.getfield 38, 3) := by decide +kernel
theorem dX5_turned_34 : decode cX5_turned 34 = .ok (.getfield 196, 3) := by decide +kernel
theorem dX5_turned_37 : decode cX5_turned 37 = .ok (.iload_n 1, 1) := by decide +kernel
theorem dX5_turned_38 : decode cX5_turned 38 = .ok (.iconst 5, 1) := by decide +kernel
theorem dX5_turned_39 : decode cX5_turned 39 = .ok (.imul, 1) := by decide +kernel
theorem dX5_turned_40 : decode cX5_turned 40 = .ok (.iload_n 2, 1) := by decide +kernel
theorem dX5_turned_41 : decode cX5_turned 41 = .ok (.iadd, 1) := by decide +kernel
theorem dX5_turned_42 : decode cX5_turned 42 = .ok (.iaload, 1) := by decide +kernel
theorem dX5_turned_43 : decode cX5_turned 43 = .ok (.ireturn, 1) := by decide +kernel
set_option maxRecDepth 20000 in
theorem dX5_count_0 : decode cX5_count 0 = .ok (.iload_n 1, 1) := by decide +kernel
theorem dX5_count_1 : decode cX5_count 1 = .ok (.tableswitch 90 0 7 #[47, 52, 57, 65, 70, 75, 80, 85], 47) := by decide +kernel
theorem dX5_count_48 : decode cX5_count 48 = .ok (.aload_n 0, 1) := by decide +kernel
theorem dX5_count_49 : decode cX5_count 49 = .ok (.getfield 46, 3) := by decide +kernel
theorem dX5_count_52 : decode cX5_count 52 = .ok (.ireturn, 1) := by decide +kernel
theorem dX5_count_53 : decode cX5_count 53 = .ok (.aload_n 0, 1) := by decide +kernel
theorem dX5_count_54 : decode cX5_count 54 = .ok (.getfield 42, 3) := by decide +kernel
theorem dX5_count_57 : decode cX5_count 57 = .ok (.ireturn, 1) := by decide +kernel
theorem dX5_count_58 : decode cX5_count 58 = .ok (.aload_n 0, 1) := by decide +kernel
theorem dX5_count_59 : decode cX5_count 59 = .ok (.getfield 38, 3) := by decide +kernel
theorem dX5_count_62 : decode cX5_count 62 = .ok (.getfield 199, 3) := by decide +kernel
theorem dX5_count_65 : decode cX5_count 65 = .ok (.ireturn, 1) := by decide +kernel
theorem dX5_count_66 : decode cX5_count 66 = .ok (.aload_n 0, 1) := by decide +kernel
theorem dX5_count_67 : decode cX5_count 67 = .ok (.invokevirtual 202, 3) := by decide +kernel
theorem dX5_count_70 : decode cX5_count 70 = .ok (.ireturn, 1) := by decide +kernel
theorem dX5_count_71 : decode cX5_count 71 = .ok (.aload_n 0, 1) := by decide +kernel
theorem dX5_count_72 : decode cX5_count 72 = .ok (.invokevirtual 205, 3) := by decide +kernel
theorem dX5_count_75 : decode cX5_count 75 = .ok (.ireturn, 1) := by decide +kernel
theorem dX5_count_76 : decode cX5_count 76 = .ok (.aload_n 0, 1) := by decide +kernel
theorem dX5_count_77 : decode cX5_count 77 = .ok (.getfield 55, 3) := by decide +kernel
theorem dX5_count_80 : decode cX5_count 80 = .ok (.ireturn, 1) := by decide +kernel
theorem dX5_count_81 : decode cX5_count 81 = .ok (.aload_n 0, 1) := by decide +kernel
theorem dX5_count_82 : decode cX5_count 82 = .ok (.getfield 58, 3) := by decide +kernel
theorem dX5_count_85 : decode cX5_count 85 = .ok (.ireturn, 1) := by decide +kernel
theorem dX5_count_86 : decode cX5_count 86 = .ok (.aload_n 0, 1) := by decide +kernel
theorem dX5_count_87 : decode cX5_count 87 = .ok (.invokevirtual 208, 3) := by decide +kernel
theorem dX5_count_90 : decode cX5_count 90 = .ok (.ireturn, 1) := by decide +kernel
theorem dX5_count_91 : decode cX5_count 91 = .ok (.iconst (-1), 1) := by decide +kernel
theorem dX5_count_92 : decode cX5_count 92 = .ok (.ireturn, 1) := by decide +kernel
theorem dX5_isIn_0 : decode cX5_isIn 0 = .ok (.iload_n 1, 1) := by decide +kernel
theorem dX5_isIn_1 : decode cX5_isIn 1 = .ok (.ifCond .lt 21, 3) := by decide +kernel
theorem dX5_isIn_4 : decode cX5_isIn 4 = .ok (.iload_n 1, 1) := by decide +kernel
theorem dX5_isIn_5 : decode cX5_isIn 5 = .ok (.bipush 16, 2) := by decide +kernel
theorem dX5_isIn_7 : decode cX5_isIn 7 = .ok (.if_icmp .ge 15, 3) := by decide +kernel
theorem dX5_isIn_10 : decode cX5_isIn 10 = .ok (.iload_n 0, 1) := by decide +kernel
theorem dX5_isIn_11 : decode cX5_isIn 11 = .ok (.iload_n 1, 1) := by decide +kernel
theorem dX5_isIn_12 : decode cX5_isIn 12 = .ok (.ishr, 1) := by decide +kernel
theorem dX5_isIn_13 : decode cX5_isIn 13 = .ok (.iconst 1, 1) := by decide +kernel
theorem dX5_isIn_14 : decode cX5_isIn 14 = .ok (.iand, 1) := by decide +kernel
theorem dX5_isIn_15 : decode cX5_isIn 15 = .ok (.ifCond .eq 7, 3) := by decide +kernel
theorem dX5_isIn_18 : decode cX5_isIn 18 = .ok (.iconst 1, 1) := by decide +kernel
theorem dX5_isIn_19 : decode cX5_isIn 19 = .ok (.goto 4, 3) := by decide +kernel
theorem dX5_isIn_22 : decode cX5_isIn 22 = .ok (.iconst 0, 1) := by decide +kernel
theorem dX5_isIn_23 : decode cX5_isIn 23 = .ok (.ireturn, 1) := by decide +kernel
theorem dX5_isSecret_0 : decode cX5_isSecret 0 = .ok (.iload_n 1, 1) := by decide +kernel
theorem dX5_isSecret_1 : decode cX5_isSecret 1 = .ok (.ifCond .lt 15, 3) := by decide +kernel
theorem dX5_isSecret_4 : decode cX5_isSecret 4 = .ok (.iload_n 1, 1) := by decide +kernel
theorem dX5_isSecret_5 : decode cX5_isSecret 5 = .ok (.aload_n 0, 1) := by decide +kernel
theorem dX5_isSecret_6 : decode cX5_isSecret 6 = .ok (.getfield 42, 3) := by decide +kernel
theorem dX5_isSecret_9 : decode cX5_isSecret 9 = .ok (.if_icmp .ge 7, 3) := by decide +kernel
theorem dX5_isSecret_12 : decode cX5_isSecret 12 = .ok (.iconst 1, 1) := by decide +kernel
theorem dX5_isSecret_13 : decode cX5_isSecret 13 = .ok (.goto 4, 3) := by decide +kernel
theorem dX5_isSecret_16 : decode cX5_isSecret 16 = .ok (.iconst 0, 1) := by decide +kernel
theorem dX5_isSecret_17 : decode cX5_isSecret 17 = .ok (.ireturn, 1) := by decide +kernel
set_option maxRecDepth 20000 in
theorem dX5_beginTurn_0 : decode cX5_beginTurn 0 = .ok (.aload_n 0, 1) := by decide +kernel
theorem dX5_beginTurn_1 : decode cX5_beginTurn 1 = .ok (.getfield 11, 3) := by decide +kernel
theorem dX5_beginTurn_4 : decode cX5_beginTurn 4 = .ok (.iload_n 1, 1) := by decide +kernel
theorem dX5_beginTurn_5 : decode cX5_beginTurn 5 = .ok (.aaload, 1) := by decide +kernel
theorem dX5_beginTurn_6 : decode cX5_beginTurn 6 = .ok (.aload_n 0, 1) := by decide +kernel
theorem dX5_beginTurn_7 : decode cX5_beginTurn 7 = .ok (.getfield 46, 3) := by decide +kernel
theorem dX5_beginTurn_10 : decode cX5_beginTurn 10 = .ok (.invokevirtual 211, 3) := by decide +kernel
theorem dX5_beginTurn_13 : decode cX5_beginTurn 13 = .ok (.aload_n 0, 1) := by decide +kernel
theorem dX5_beginTurn_14 : decode cX5_beginTurn 14 = .ok (.getfield 38, 3) := by decide +kernel
theorem dX5_beginTurn_17 : decode cX5_beginTurn 17 = .ok (.iload_n 1, 1) := by decide +kernel
theorem dX5_beginTurn_18 : decode cX5_beginTurn 18 = .ok (.aload_n 0, 1) := by decide +kernel
theorem dX5_beginTurn_19 : decode cX5_beginTurn 19 = .ok (.getfield 11, 3) := by decide +kernel
theorem dX5_beginTurn_22 : decode cX5_beginTurn 22 = .ok (.iload_n 1, 1) := by decide +kernel
theorem dX5_beginTurn_23 : decode cX5_beginTurn 23 = .ok (.aaload, 1) := by decide +kernel
theorem dX5_beginTurn_24 : decode cX5_beginTurn 24 = .ok (.getfield 102, 3) := by decide +kernel
theorem dX5_beginTurn_27 : decode cX5_beginTurn 27 = .ok (.aload_n 0, 1) := by decide +kernel
theorem dX5_beginTurn_28 : decode cX5_beginTurn 28 = .ok (.getfield 46, 3) := by decide +kernel
theorem dX5_beginTurn_31 : decode cX5_beginTurn 31 = .ok (.iload_n 2, 1) := by decide +kernel
theorem dX5_beginTurn_32 : decode cX5_beginTurn 32 = .ok (.invokevirtual 214, 3) := by decide +kernel
theorem dX5_beginTurn_35 : decode cX5_beginTurn 35 = .ok (.istore_n 3, 1) := by decide +kernel
theorem dX5_beginTurn_36 : decode cX5_beginTurn 36 = .ok (.aload_n 0, 1) := by decide +kernel
theorem dX5_beginTurn_37 : decode cX5_beginTurn 37 = .ok (.getfield 17, 3) := by decide +kernel
theorem dX5_beginTurn_40 : decode cX5_beginTurn 40 = .ok (.iload_n 1, 1) := by decide +kernel
theorem dX5_beginTurn_41 : decode cX5_beginTurn 41 = .ok (.aaload, 1) := by decide +kernel
theorem dX5_beginTurn_42 : decode cX5_beginTurn 42 = .ok (.iload_n 3, 1) := by decide +kernel
theorem dX5_beginTurn_43 : decode cX5_beginTurn 43 = .ok (.iload_n 2, 1) := by decide +kernel
theorem dX5_beginTurn_44 : decode cX5_beginTurn 44 = .ok (.aload_n 0, 1) := by decide +kernel
theorem dX5_beginTurn_45 : decode cX5_beginTurn 45 = .ok (.getfield 46, 3) := by decide +kernel
theorem dX5_beginTurn_48 : decode cX5_beginTurn 48 = .ok (.aload_n 0, 1) := by decide +kernel
theorem dX5_beginTurn_49 : decode cX5_beginTurn 49 = .ok (.getfield 31, 3) := by decide +kernel
theorem dX5_beginTurn_52 : decode cX5_beginTurn 52 = .ok (.invokevirtual 218, 3) := by decide +kernel
theorem dX5_beginTurn_55 : decode cX5_beginTurn 55 = .ok (.return_, 1) := by decide +kernel
set_option maxRecDepth 20000 in
theorem dX5_isHeldUp_0 : decode cX5_isHeldUp 0 = .ok (.iconst 0, 1) := by decide +kernel
theorem dX5_isHeldUp_1 : decode cX5_isHeldUp 1 = .ok (.istore_n 2, 1) := by decide +kernel
theorem dX5_isHeldUp_2 : decode cX5_isHeldUp 2 = .ok (.iload_n 2, 1) := by decide +kernel
theorem dX5_isHeldUp_3 : decode cX5_isHeldUp 3 = .ok (.aload_n 0, 1) := by decide +kernel
theorem dX5_isHeldUp_4 : decode cX5_isHeldUp 4 = .ok (.getfield 42, 3) := by decide +kernel
theorem dX5_isHeldUp_7 : decode cX5_isHeldUp 7 = .ok (.if_icmp .ge 62, 3) := by decide +kernel
theorem dX5_isHeldUp_10 : decode cX5_isHeldUp 10 = .ok (.iload_n 2, 1) := by decide +kernel
theorem dX5_isHeldUp_11 : decode cX5_isHeldUp 11 = .ok (.iload_n 1, 1) := by decide +kernel
theorem dX5_isHeldUp_12 : decode cX5_isHeldUp 12 = .ok (.if_icmp .eq 27, 3) := by decide +kernel
theorem dX5_isHeldUp_15 : decode cX5_isHeldUp 15 = .ok (.aload_n 0, 1) := by decide +kernel
theorem dX5_isHeldUp_16 : decode cX5_isHeldUp 16 = .ok (.getfield 24, 3) := by decide +kernel
theorem dX5_isHeldUp_19 : decode cX5_isHeldUp 19 = .ok (.iload_n 1, 1) := by decide +kernel
theorem dX5_isHeldUp_20 : decode cX5_isHeldUp 20 = .ok (.iload_n 2, 1) := by decide +kernel
theorem dX5_isHeldUp_21 : decode cX5_isHeldUp 21 = .ok (.invokevirtual 78, 3) := by decide +kernel
theorem dX5_isHeldUp_24 : decode cX5_isHeldUp 24 = .ok (.ifCond .ne 15, 3) := by decide +kernel
theorem dX5_isHeldUp_27 : decode cX5_isHeldUp 27 = .ok (.aload_n 0, 1) := by decide +kernel
theorem dX5_isHeldUp_28 : decode cX5_isHeldUp 28 = .ok (.getfield 24, 3) := by decide +kernel
theorem dX5_isHeldUp_31 : decode cX5_isHeldUp 31 = .ok (.iload_n 2, 1) := by decide +kernel
theorem dX5_isHeldUp_32 : decode cX5_isHeldUp 32 = .ok (.iload_n 1, 1) := by decide +kernel
theorem dX5_isHeldUp_33 : decode cX5_isHeldUp 33 = .ok (.invokevirtual 78, 3) := by decide +kernel
theorem dX5_isHeldUp_36 : decode cX5_isHeldUp 36 = .ok (.ifCond .eq 7, 3) := by decide +kernel
theorem dX5_isHeldUp_39 : decode cX5_isHeldUp 39 = .ok (.iconst 1, 1) := by decide +kernel
theorem dX5_isHeldUp_40 : decode cX5_isHeldUp 40 = .ok (.goto 4, 3) := by decide +kernel
theorem dX5_isHeldUp_43 : decode cX5_isHeldUp 43 = .ok (.iconst 0, 1) := by decide +kernel
theorem dX5_isHeldUp_44 : decode cX5_isHeldUp 44 = .ok (.istore_n 3, 1) := by decide +kernel
theorem dX5_isHeldUp_45 : decode cX5_isHeldUp 45 = .ok (.iload_n 3, 1) := by decide +kernel
theorem dX5_isHeldUp_46 : decode cX5_isHeldUp 46 = .ok (.ifCond .eq 17, 3) := by decide +kernel
theorem dX5_isHeldUp_49 : decode cX5_isHeldUp 49 = .ok (.aload_n 0, 1) := by decide +kernel
theorem dX5_isHeldUp_50 : decode cX5_isHeldUp 50 = .ok (.getfield 17, 3) := by decide +kernel
theorem dX5_isHeldUp_53 : decode cX5_isHeldUp 53 = .ok (.iload_n 2, 1) := by decide +kernel
theorem dX5_isHeldUp_54 : decode cX5_isHeldUp 54 = .ok (.aaload, 1) := by decide +kernel
theorem dX5_isHeldUp_55 : decode cX5_isHeldUp 55 = .ok (.invokevirtual 105, 3) := by decide +kernel
theorem dX5_isHeldUp_58 : decode cX5_isHeldUp 58 = .ok (.ifCond .eq 5, 3) := by decide +kernel
theorem dX5_isHeldUp_61 : decode cX5_isHeldUp 61 = .ok (.iconst 1, 1) := by decide +kernel
theorem dX5_isHeldUp_62 : decode cX5_isHeldUp 62 = .ok (.ireturn, 1) := by decide +kernel
theorem dX5_isHeldUp_63 : decode cX5_isHeldUp 63 = .ok (.iinc 2 1, 3) := by decide +kernel
theorem dX5_isHeldUp_66 : decode cX5_isHeldUp 66 = .ok (.goto (-64), 3) := by decide +kernel
theorem dX5_isHeldUp_69 : decode cX5_isHeldUp 69 = .ok (.iconst 0, 1) := by decide +kernel
theorem dX5_isHeldUp_70 : decode cX5_isHeldUp 70 = .ok (.ireturn, 1) := by decide +kernel
set_option maxRecDepth 20000 in
theorem dX5_nextStir_0 : decode cX5_nextStir 0 = .ok (.iload_n 1, 1) := by decide +kernel
theorem dX5_nextStir_1 : decode cX5_nextStir 1 = .ok (.istore_n 2, 1) := by decide +kernel
theorem dX5_nextStir_2 : decode cX5_nextStir 2 = .ok (.iconst 0, 1) := by decide +kernel
theorem dX5_nextStir_3 : decode cX5_nextStir 3 = .ok (.istore_n 3, 1) := by decide +kernel
theorem dX5_nextStir_4 : decode cX5_nextStir 4 = .ok (.iload_n 3, 1) := by decide +kernel
theorem dX5_nextStir_5 : decode cX5_nextStir 5 = .ok (.aload_n 0, 1) := by decide +kernel
theorem dX5_nextStir_6 : decode cX5_nextStir 6 = .ok (.getfield 42, 3) := by decide +kernel
theorem dX5_nextStir_9 : decode cX5_nextStir 9 = .ok (.if_icmp .ge 67, 3) := by decide +kernel
theorem dX5_nextStir_12 : decode cX5_nextStir 12 = .ok (.iload_n 2, 1) := by decide +kernel
theorem dX5_nextStir_13 : decode cX5_nextStir 13 = .ok (.aload_n 0, 1) := by decide +kernel
theorem dX5_nextStir_14 : decode cX5_nextStir 14 = .ok (.getfield 17, 3) := by decide +kernel
theorem dX5_nextStir_17 : decode cX5_nextStir 17 = .ok (.iload_n 3, 1) := by decide +kernel
theorem dX5_nextStir_18 : decode cX5_nextStir 18 = .ok (.aaload, 1) := by decide +kernel
theorem dX5_nextStir_19 : decode cX5_nextStir 19 = .ok (.iload_n 1, 1) := by decide +kernel
theorem dX5_nextStir_20 : decode cX5_nextStir 20 = .ok (.aload_n 0, 1) := by decide +kernel
theorem dX5_nextStir_21 : decode cX5_nextStir 21 = .ok (.getfield 31, 3) := by decide +kernel
theorem dX5_nextStir_24 : decode cX5_nextStir 24 = .ok (.invokevirtual 222, 3) := by decide +kernel
theorem dX5_nextStir_27 : decode cX5_nextStir 27 = .ok (.invokestatic 226, 3) := by decide +kernel
theorem dX5_nextStir_30 : decode cX5_nextStir 30 = .ok (.istore_n 2, 1) := by decide +kernel
theorem dX5_nextStir_31 : decode cX5_nextStir 31 = .ok (.aload_n 0, 1) := by decide +kernel
theorem dX5_nextStir_32 : decode cX5_nextStir 32 = .ok (.getfield 31, 3) := by decide +kernel
theorem dX5_nextStir_35 : decode cX5_nextStir 35 = .ok (.bipush 16, 2) := by decide +kernel
theorem dX5_nextStir_37 : decode cX5_nextStir 37 = .ok (.invokevirtual 89, 3) := by decide +kernel
theorem dX5_nextStir_40 : decode cX5_nextStir 40 = .ok (.ifCond .ne 30, 3) := by decide +kernel
theorem dX5_nextStir_43 : decode cX5_nextStir 43 = .ok (.iload_n 2, 1) := by decide +kernel
theorem dX5_nextStir_44 : decode cX5_nextStir 44 = .ok (.aload_n 0, 1) := by decide +kernel
theorem dX5_nextStir_45 : decode cX5_nextStir 45 = .ok (.getfield 17, 3) := by decide +kernel
theorem dX5_nextStir_48 : decode cX5_nextStir 48 = .ok (.iload_n 3, 1) := by decide +kernel
theorem dX5_nextStir_49 : decode cX5_nextStir 49 = .ok (.aaload, 1) := by decide +kernel
theorem dX5_nextStir_50 : decode cX5_nextStir 50 = .ok (.iload_n 1, 1) := by decide +kernel
theorem dX5_nextStir_51 : decode cX5_nextStir 51 = .ok (.aload_n 0, 1) := by decide +kernel
theorem dX5_nextStir_52 : decode cX5_nextStir 52 = .ok (.getfield 46, 3) := by decide +kernel
theorem dX5_nextStir_55 : decode cX5_nextStir 55 = .ok (.aload_n 0, 1) := by decide +kernel
theorem dX5_nextStir_56 : decode cX5_nextStir 56 = .ok (.getfield 49, 3) := by decide +kernel
theorem dX5_nextStir_59 : decode cX5_nextStir 59 = .ok (.aload_n 0, 1) := by decide +kernel
theorem dX5_nextStir_60 : decode cX5_nextStir 60 = .ok (.getfield 52, 3) := by decide +kernel
theorem dX5_nextStir_63 : decode cX5_nextStir 63 = .ok (.invokevirtual 232, 3) := by decide +kernel
theorem dX5_nextStir_66 : decode cX5_nextStir 66 = .ok (.invokestatic 226, 3) := by decide +kernel
theorem dX5_nextStir_69 : decode cX5_nextStir 69 = .ok (.istore_n 2, 1) := by decide +kernel
theorem dX5_nextStir_70 : decode cX5_nextStir 70 = .ok (.iinc 3 1, 3) := by decide +kernel
theorem dX5_nextStir_73 : decode cX5_nextStir 73 = .ok (.goto (-69), 3) := by decide +kernel
theorem dX5_nextStir_76 : decode cX5_nextStir 76 = .ok (.iload_n 2, 1) := by decide +kernel
theorem dX5_nextStir_77 : decode cX5_nextStir 77 = .ok (.aload_n 0, 1) := by decide +kernel
theorem dX5_nextStir_78 : decode cX5_nextStir 78 = .ok (.getfield 46, 3) := by decide +kernel
theorem dX5_nextStir_81 : decode cX5_nextStir 81 = .ok (.iconst 1, 1) := by decide +kernel
theorem dX5_nextStir_82 : decode cX5_nextStir 82 = .ok (.iadd, 1) := by decide +kernel
theorem dX5_nextStir_83 : decode cX5_nextStir 83 = .ok (.invokestatic 236, 3) := by decide +kernel
theorem dX5_nextStir_86 : decode cX5_nextStir 86 = .ok (.ireturn, 1) := by decide +kernel
set_option maxRecDepth 20000 in
theorem dX5_goOn_0 : decode cX5_goOn 0 = .ok (.iconst 0, 1) := by decide +kernel
theorem dX5_goOn_1 : decode cX5_goOn 1 = .ok (.istore_n 2, 1) := by decide +kernel
theorem dX5_goOn_2 : decode cX5_goOn 2 = .ok (.iload_n 2, 1) := by decide +kernel
theorem dX5_goOn_3 : decode cX5_goOn 3 = .ok (.iconst 5, 1) := by decide +kernel
theorem dX5_goOn_4 : decode cX5_goOn 4 = .ok (.if_icmp .ge 65, 3) := by decide +kernel
theorem dX5_goOn_7 : decode cX5_goOn 7 = .ok (.aload_n 1, 1) := by decide +kernel
theorem dX5_goOn_8 : decode cX5_goOn 8 = .ok (.aload_n 0, 1) := by decide +kernel
theorem dX5_goOn_9 : decode cX5_goOn 9 = .ok (.getfield 46, 3) := by decide +kernel
theorem dX5_goOn_12 : decode cX5_goOn 12 = .ok (.aload_n 0, 1) := by decide +kernel
theorem dX5_goOn_13 : decode cX5_goOn 13 = .ok (.getfield 49, 3) := by decide +kernel
theorem dX5_goOn_16 : decode cX5_goOn 16 = .ok (.aload_n 0, 1) := by decide +kernel
theorem dX5_goOn_17 : decode cX5_goOn 17 = .ok (.getfield 52, 3) := by decide +kernel
theorem dX5_goOn_20 : decode cX5_goOn 20 = .ok (.invokevirtual 239, 3) := by decide +kernel
theorem dX5_goOn_23 : decode cX5_goOn 23 = .ok (.ifCond .eq 46, 3) := by decide +kernel
theorem dX5_goOn_26 : decode cX5_goOn 26 = .ok (.aload_n 1, 1) := by decide +kernel
theorem dX5_goOn_27 : decode cX5_goOn 27 = .ok (.invokevirtual 243, 3) := by decide +kernel
theorem dX5_goOn_30 : decode cX5_goOn 30 = .ok (.istore_n 3, 1) := by decide +kernel
theorem dX5_goOn_31 : decode cX5_goOn 31 = .ok (.iload_n 3, 1) := by decide +kernel
theorem dX5_goOn_32 : decode cX5_goOn 32 = .ok (.ifCond .ne 18, 3) := by decide +kernel
theorem dX5_goOn_35 : decode cX5_goOn 35 = .ok (.aload_n 0, 1) := by decide +kernel
theorem dX5_goOn_36 : decode cX5_goOn 36 = .ok (.getfield 38, 3) := by decide +kernel
theorem dX5_goOn_39 : decode cX5_goOn 39 = .ok (.aload_n 1, 1) := by decide +kernel
theorem dX5_goOn_40 : decode cX5_goOn 40 = .ok (.getfield 113, 3) := by decide +kernel
theorem dX5_goOn_43 : decode cX5_goOn 43 = .ok (.aload_n 0, 1) := by decide +kernel
theorem dX5_goOn_44 : decode cX5_goOn 44 = .ok (.getfield 46, 3) := by decide +kernel
theorem dX5_goOn_47 : decode cX5_goOn 47 = .ok (.invokevirtual 246, 3) := by decide +kernel
theorem dX5_goOn_50 : decode cX5_goOn 50 = .ok (.aload_n 1, 1) := by decide +kernel
theorem dX5_goOn_51 : decode cX5_goOn 51 = .ok (.iload_n 3, 1) := by decide +kernel
theorem dX5_goOn_52 : decode cX5_goOn 52 = .ok (.aload_n 0, 1) := by decide +kernel
theorem dX5_goOn_53 : decode cX5_goOn 53 = .ok (.getfield 46, 3) := by decide +kernel
theorem dX5_goOn_56 : decode cX5_goOn 56 = .ok (.aload_n 0, 1) := by decide +kernel
theorem dX5_goOn_57 : decode cX5_goOn 57 = .ok (.getfield 31, 3) := by decide +kernel
theorem dX5_goOn_60 : decode cX5_goOn 60 = .ok (.invokevirtual 250, 3) := by decide +kernel
theorem dX5_goOn_63 : decode cX5_goOn 63 = .ok (.iinc 2 1, 3) := by decide +kernel
theorem dX5_goOn_66 : decode cX5_goOn 66 = .ok (.goto (-64), 3) := by decide +kernel
theorem dX5_goOn_69 : decode cX5_goOn 69 = .ok (.return_, 1) := by decide +kernel
set_option maxRecDepth 20000 in
theorem dX5_opens_0 : decode cX5_opens 0 = .ok (.aload_n 0, 1) := by decide +kernel
theorem dX5_opens_1 : decode cX5_opens 1 = .ok (.getfield 31, 3) := by decide +kernel
theorem dX5_opens_4 : decode cX5_opens 4 = .ok (.bipush 10, 2) := by decide +kernel
theorem dX5_opens_6 : decode cX5_opens 6 = .ok (.iload_n 2, 1) := by decide +kernel
theorem dX5_opens_7 : decode cX5_opens 7 = .ok (.iadd, 1) := by decide +kernel
theorem dX5_opens_8 : decode cX5_opens 8 = .ok (.invokevirtual 89, 3) := by decide +kernel
theorem dX5_opens_11 : decode cX5_opens 11 = .ok (.ifCond .ne 16, 3) := by decide +kernel
theorem dX5_opens_14 : decode cX5_opens 14 = .ok (.aload_n 1, 1) := by decide +kernel
theorem dX5_opens_15 : decode cX5_opens 15 = .ok (.iload_n 2, 1) := by decide +kernel
theorem dX5_opens_16 : decode cX5_opens 16 = .ok (.iload_n 3, 1) := by decide +kernel
theorem dX5_opens_17 : decode cX5_opens 17 = .ok (.invokevirtual 180, 3) := by decide +kernel
theorem dX5_opens_20 : decode cX5_opens 20 = .ok (.ifCond .eq 7, 3) := by decide +kernel
theorem dX5_opens_23 : decode cX5_opens 23 = .ok (.iconst 1, 1) := by decide +kernel
theorem dX5_opens_24 : decode cX5_opens 24 = .ok (.goto 4, 3) := by decide +kernel
theorem dX5_opens_27 : decode cX5_opens 27 = .ok (.iconst 0, 1) := by decide +kernel
theorem dX5_opens_28 : decode cX5_opens 28 = .ok (.ireturn, 1) := by decide +kernel
set_option maxRecDepth 20000 in
theorem dX5_noteAsk_0 : decode cX5_noteAsk 0 = .ok (.iload 4, 2) := by decide +kernel
theorem dX5_noteAsk_2 : decode cX5_noteAsk 2 = .ok (.ifCond .ne 15, 3) := by decide +kernel
theorem dX5_noteAsk_5 : decode cX5_noteAsk 5 = .ok (.aload_n 0, 1) := by decide +kernel
theorem dX5_noteAsk_6 : decode cX5_noteAsk 6 = .ok (.dup, 1) := by decide +kernel
theorem dX5_noteAsk_7 : decode cX5_noteAsk 7 = .ok (.getfield 58, 3) := by decide +kernel
theorem dX5_noteAsk_10 : decode cX5_noteAsk 10 = .ok (.iconst 1, 1) := by decide +kernel
theorem dX5_noteAsk_11 : decode cX5_noteAsk 11 = .ok (.iadd, 1) := by decide +kernel
theorem dX5_noteAsk_12 : decode cX5_noteAsk 12 = .ok (.putfield 58, 3) := by decide +kernel
theorem dX5_noteAsk_15 : decode cX5_noteAsk 15 = .ok (.iconst 0, 1) := by decide +kernel
theorem dX5_noteAsk_16 : decode cX5_noteAsk 16 = .ok (.ireturn, 1) := by decide +kernel
theorem dX5_noteAsk_17 : decode cX5_noteAsk 17 = .ok (.aload_n 0, 1) := by decide +kernel
theorem dX5_noteAsk_18 : decode cX5_noteAsk 18 = .ok (.dup, 1) := by decide +kernel
theorem dX5_noteAsk_19 : decode cX5_noteAsk 19 = .ok (.getfield 55, 3) := by decide +kernel
theorem dX5_noteAsk_22 : decode cX5_noteAsk 22 = .ok (.iconst 1, 1) := by decide +kernel
theorem dX5_noteAsk_23 : decode cX5_noteAsk 23 = .ok (.iadd, 1) := by decide +kernel
theorem dX5_noteAsk_24 : decode cX5_noteAsk 24 = .ok (.putfield 55, 3) := by decide +kernel
theorem dX5_noteAsk_27 : decode cX5_noteAsk 27 = .ok (.aload_n 1, 1) := by decide +kernel
theorem dX5_noteAsk_28 : decode cX5_noteAsk 28 = .ok (.iload_n 2, 1) := by decide +kernel
theorem dX5_noteAsk_29 : decode cX5_noteAsk 29 = .ok (.iload_n 3, 1) := by decide +kernel
theorem dX5_noteAsk_30 : decode cX5_noteAsk 30 = .ok (.aload_n 0, 1) := by decide +kernel
theorem dX5_noteAsk_31 : decode cX5_noteAsk 31 = .ok (.getfield 46, 3) := by decide +kernel
theorem dX5_noteAsk_34 : decode cX5_noteAsk 34 = .ok (.invokevirtual 254, 3) := by decide +kernel
theorem dX5_noteAsk_37 : decode cX5_noteAsk 37 = .ok (.iconst 1, 1) := by decide +kernel
theorem dX5_noteAsk_38 : decode cX5_noteAsk 38 = .ok (.ireturn, 1) := by decide +kernel
set_option maxRecDepth 20000 in
theorem dX5_nextOfPlan_0 : decode cX5_nextOfPlan 0 = .ok (.iconst (-1), 1) := by decide +kernel
theorem dX5_nextOfPlan_1 : decode cX5_nextOfPlan 1 = .ok (.istore_n 2, 1) := by decide +kernel
theorem dX5_nextOfPlan_2 : decode cX5_nextOfPlan 2 = .ok (.iconst 0, 1) := by decide +kernel
theorem dX5_nextOfPlan_3 : decode cX5_nextOfPlan 3 = .ok (.istore_n 3, 1) := by decide +kernel
theorem dX5_nextOfPlan_4 : decode cX5_nextOfPlan 4 = .ok (.iload_n 3, 1) := by decide +kernel
theorem dX5_nextOfPlan_5 : decode cX5_nextOfPlan 5 = .ok (.aload_n 0, 1) := by decide +kernel
theorem dX5_nextOfPlan_6 : decode cX5_nextOfPlan 6 = .ok (.getfield 42, 3) := by decide +kernel
theorem dX5_nextOfPlan_9 : decode cX5_nextOfPlan 9 = .ok (.if_icmp .ge 73, 3) := by decide +kernel
theorem dX5_nextOfPlan_12 : decode cX5_nextOfPlan 12 = .ok (.iload_n 1, 1) := by decide +kernel
theorem dX5_nextOfPlan_13 : decode cX5_nextOfPlan 13 = .ok (.iload_n 3, 1) := by decide +kernel
theorem dX5_nextOfPlan_14 : decode cX5_nextOfPlan 14 = .ok (.invokestatic 135, 3) := by decide +kernel
theorem dX5_nextOfPlan_17 : decode cX5_nextOfPlan 17 = .ok (.ifCond .ne 23, 3) := by decide +kernel
theorem dX5_nextOfPlan_20 : decode cX5_nextOfPlan 20 = .ok (.aload_n 0, 1) := by decide +kernel
theorem dX5_nextOfPlan_21 : decode cX5_nextOfPlan 21 = .ok (.getfield 24, 3) := by decide +kernel
theorem dX5_nextOfPlan_24 : decode cX5_nextOfPlan 24 = .ok (.getfield 258, 3) := by decide +kernel
theorem dX5_nextOfPlan_27 : decode cX5_nextOfPlan 27 = .ok (.iload_n 3, 1) := by decide +kernel
theorem dX5_nextOfPlan_28 : decode cX5_nextOfPlan 28 = .ok (.iaload, 1) := by decide +kernel
theorem dX5_nextOfPlan_29 : decode cX5_nextOfPlan 29 = .ok (.iload_n 1, 1) := by decide +kernel
theorem dX5_nextOfPlan_30 : decode cX5_nextOfPlan 30 = .ok (.iconst (-1), 1) := by decide +kernel
theorem dX5_nextOfPlan_31 : decode cX5_nextOfPlan 31 = .ok (.ixor, 1) := by decide +kernel
theorem dX5_nextOfPlan_32 : decode cX5_nextOfPlan 32 = .ok (.iand, 1) := by decide +kernel
theorem dX5_nextOfPlan_33 : decode cX5_nextOfPlan 33 = .ok (.ifCond .ne 7, 3) := by decide +kernel
theorem dX5_nextOfPlan_36 : decode cX5_nextOfPlan 36 = .ok (.iconst 1, 1) := by decide +kernel
theorem dX5_nextOfPlan_37 : decode cX5_nextOfPlan 37 = .ok (.goto 4, 3) := by decide +kernel
theorem dX5_nextOfPlan_40 : decode cX5_nextOfPlan 40 = .ok (.iconst 0, 1) := by decide +kernel
theorem dX5_nextOfPlan_41 : decode cX5_nextOfPlan 41 = .ok (.istore 4, 2) := by decide +kernel
theorem dX5_nextOfPlan_43 : decode cX5_nextOfPlan 43 = .ok (.iload 4, 2) := by decide +kernel
theorem dX5_nextOfPlan_45 : decode cX5_nextOfPlan 45 = .ok (.ifCond .eq 31, 3) := by decide +kernel
theorem dX5_nextOfPlan_48 : decode cX5_nextOfPlan 48 = .ok (.iload_n 2, 1) := by decide +kernel
theorem dX5_nextOfPlan_49 : decode cX5_nextOfPlan 49 = .ok (.iconst (-1), 1) := by decide +kernel
theorem dX5_nextOfPlan_50 : decode cX5_nextOfPlan 50 = .ok (.if_icmp .eq 24, 3) := by decide +kernel
theorem dX5_nextOfPlan_53 : decode cX5_nextOfPlan 53 = .ok (.aload_n 0, 1) := by decide +kernel
theorem dX5_nextOfPlan_54 : decode cX5_nextOfPlan 54 = .ok (.getfield 11, 3) := by decide +kernel
theorem dX5_nextOfPlan_57 : decode cX5_nextOfPlan 57 = .ok (.iload_n 3, 1) := by decide +kernel
theorem dX5_nextOfPlan_58 : decode cX5_nextOfPlan 58 = .ok (.aaload, 1) := by decide +kernel
theorem dX5_nextOfPlan_59 : decode cX5_nextOfPlan 59 = .ok (.invokevirtual 261, 3) := by decide +kernel
theorem dX5_nextOfPlan_62 : decode cX5_nextOfPlan 62 = .ok (.aload_n 0, 1) := by decide +kernel
theorem dX5_nextOfPlan_63 : decode cX5_nextOfPlan 63 = .ok (.getfield 11, 3) := by decide +kernel
theorem dX5_nextOfPlan_66 : decode cX5_nextOfPlan 66 = .ok (.iload_n 2, 1) := by decide +kernel
theorem dX5_nextOfPlan_67 : decode cX5_nextOfPlan 67 = .ok (.aaload, 1) := by decide +kernel
theorem dX5_nextOfPlan_68 : decode cX5_nextOfPlan 68 = .ok (.invokevirtual 261, 3) := by decide +kernel
theorem dX5_nextOfPlan_71 : decode cX5_nextOfPlan 71 = .ok (.if_icmp .ge 5, 3) := by decide +kernel
theorem dX5_nextOfPlan_74 : decode cX5_nextOfPlan 74 = .ok (.iload_n 3, 1) := by decide +kernel
theorem dX5_nextOfPlan_75 : decode cX5_nextOfPlan 75 = .ok (.istore_n 2, 1) := by decide +kernel
theorem dX5_nextOfPlan_76 : decode cX5_nextOfPlan 76 = .ok (.iinc 3 1, 3) := by decide +kernel
theorem dX5_nextOfPlan_79 : decode cX5_nextOfPlan 79 = .ok (.goto (-75), 3) := by decide +kernel
theorem dX5_nextOfPlan_82 : decode cX5_nextOfPlan 82 = .ok (.iload_n 2, 1) := by decide +kernel
theorem dX5_nextOfPlan_83 : decode cX5_nextOfPlan 83 = .ok (.ireturn, 1) := by decide +kernel
set_option maxRecDepth 20000 in
theorem dX5_turnsGoingOn_0 : decode cX5_turnsGoingOn 0 = .ok (.iconst 0, 1) := by decide +kernel
theorem dX5_turnsGoingOn_1 : decode cX5_turnsGoingOn 1 = .ok (.istore_n 1, 1) := by decide +kernel
theorem dX5_turnsGoingOn_2 : decode cX5_turnsGoingOn 2 = .ok (.iconst 0, 1) := by decide +kernel
theorem dX5_turnsGoingOn_3 : decode cX5_turnsGoingOn 3 = .ok (.istore_n 2, 1) := by decide +kernel
theorem dX5_turnsGoingOn_4 : decode cX5_turnsGoingOn 4 = .ok (.iload_n 2, 1) := by decide +kernel
theorem dX5_turnsGoingOn_5 : decode cX5_turnsGoingOn 5 = .ok (.aload_n 0, 1) := by decide +kernel
theorem dX5_turnsGoingOn_6 : decode cX5_turnsGoingOn 6 = .ok (.getfield 42, 3) := by decide +kernel
theorem dX5_turnsGoingOn_9 : decode cX5_turnsGoingOn 9 = .ok (.if_icmp .ge 29, 3) := by decide +kernel
theorem dX5_turnsGoingOn_12 : decode cX5_turnsGoingOn 12 = .ok (.iload_n 1, 1) := by decide +kernel
theorem dX5_turnsGoingOn_13 : decode cX5_turnsGoingOn 13 = .ok (.aload_n 0, 1) := by decide +kernel
theorem dX5_turnsGoingOn_14 : decode cX5_turnsGoingOn 14 = .ok (.getfield 17, 3) := by decide +kernel
theorem dX5_turnsGoingOn_17 : decode cX5_turnsGoingOn 17 = .ok (.iload_n 2, 1) := by decide +kernel
theorem dX5_turnsGoingOn_18 : decode cX5_turnsGoingOn 18 = .ok (.aaload, 1) := by decide +kernel
theorem dX5_turnsGoingOn_19 : decode cX5_turnsGoingOn 19 = .ok (.invokevirtual 105, 3) := by decide +kernel
theorem dX5_turnsGoingOn_22 : decode cX5_turnsGoingOn 22 = .ok (.ifCond .eq 7, 3) := by decide +kernel
theorem dX5_turnsGoingOn_25 : decode cX5_turnsGoingOn 25 = .ok (.iconst 1, 1) := by decide +kernel
theorem dX5_turnsGoingOn_26 : decode cX5_turnsGoingOn 26 = .ok (.goto 4, 3) := by decide +kernel
theorem dX5_turnsGoingOn_29 : decode cX5_turnsGoingOn 29 = .ok (.iconst 0, 1) := by decide +kernel
theorem dX5_turnsGoingOn_30 : decode cX5_turnsGoingOn 30 = .ok (.iadd, 1) := by decide +kernel
theorem dX5_turnsGoingOn_31 : decode cX5_turnsGoingOn 31 = .ok (.istore_n 1, 1) := by decide +kernel
theorem dX5_turnsGoingOn_32 : decode cX5_turnsGoingOn 32 = .ok (.iinc 2 1, 3) := by decide +kernel
theorem dX5_turnsGoingOn_35 : decode cX5_turnsGoingOn 35 = .ok (.goto (-31), 3) := by decide +kernel
theorem dX5_turnsGoingOn_38 : decode cX5_turnsGoingOn 38 = .ok (.iload_n 1, 1) := by decide +kernel
theorem dX5_turnsGoingOn_39 : decode cX5_turnsGoingOn 39 = .ok (.ireturn, 1) := by decide +kernel
set_option maxRecDepth 20000 in
theorem dX5_lettersUnanswered_0 : decode cX5_lettersUnanswered 0 = .ok (.iconst 0, 1) := by decide +kernel
theorem dX5_lettersUnanswered_1 : decode cX5_lettersUnanswered 1 = .ok (.istore_n 1, 1) := by decide +kernel
theorem dX5_lettersUnanswered_2 : decode cX5_lettersUnanswered 2 = .ok (.iconst 0, 1) := by decide +kernel
theorem dX5_lettersUnanswered_3 : decode cX5_lettersUnanswered 3 = .ok (.istore_n 2, 1) := by decide +kernel
theorem dX5_lettersUnanswered_4 : decode cX5_lettersUnanswered 4 = .ok (.iload_n 2, 1) := by decide +kernel
theorem dX5_lettersUnanswered_5 : decode cX5_lettersUnanswered 5 = .ok (.aload_n 0, 1) := by decide +kernel
theorem dX5_lettersUnanswered_6 : decode cX5_lettersUnanswered 6 = .ok (.getfield 42, 3) := by decide +kernel
theorem dX5_lettersUnanswered_9 : decode cX5_lettersUnanswered 9 = .ok (.if_icmp .ge 21, 3) := by decide +kernel
theorem dX5_lettersUnanswered_12 : decode cX5_lettersUnanswered 12 = .ok (.iload_n 1, 1) := by decide +kernel
theorem dX5_lettersUnanswered_13 : decode cX5_lettersUnanswered 13 = .ok (.aload_n 0, 1) := by decide +kernel
theorem dX5_lettersUnanswered_14 : decode cX5_lettersUnanswered 14 = .ok (.getfield 17, 3) := by decide +kernel
theorem dX5_lettersUnanswered_17 : decode cX5_lettersUnanswered 17 = .ok (.iload_n 2, 1) := by decide +kernel
theorem dX5_lettersUnanswered_18 : decode cX5_lettersUnanswered 18 = .ok (.aaload, 1) := by decide +kernel
theorem dX5_lettersUnanswered_19 : decode cX5_lettersUnanswered 19 = .ok (.invokevirtual 174, 3) := by decide +kernel
theorem dX5_lettersUnanswered_22 : decode cX5_lettersUnanswered 22 = .ok (.iadd, 1) := by decide +kernel
theorem dX5_lettersUnanswered_23 : decode cX5_lettersUnanswered 23 = .ok (.istore_n 1, 1) := by decide +kernel
theorem dX5_lettersUnanswered_24 : decode cX5_lettersUnanswered 24 = .ok (.iinc 2 1, 3) := by decide +kernel
theorem dX5_lettersUnanswered_27 : decode cX5_lettersUnanswered 27 = .ok (.goto (-23), 3) := by decide +kernel
theorem dX5_lettersUnanswered_30 : decode cX5_lettersUnanswered 30 = .ok (.iload_n 1, 1) := by decide +kernel
theorem dX5_lettersUnanswered_31 : decode cX5_lettersUnanswered 31 = .ok (.ireturn, 1) := by decide +kernel
set_option maxRecDepth 20000 in
theorem dX5_secretsPastLife_0 : decode cX5_secretsPastLife 0 = .ok (.iconst 0, 1) := by decide +kernel
theorem dX5_secretsPastLife_1 : decode cX5_secretsPastLife 1 = .ok (.istore_n 1, 1) := by decide +kernel
theorem dX5_secretsPastLife_2 : decode cX5_secretsPastLife 2 = .ok (.iconst 0, 1) := by decide +kernel
theorem dX5_secretsPastLife_3 : decode cX5_secretsPastLife 3 = .ok (.istore_n 2, 1) := by decide +kernel
theorem dX5_secretsPastLife_4 : decode cX5_secretsPastLife 4 = .ok (.iload_n 2, 1) := by decide +kernel
theorem dX5_secretsPastLife_5 : decode cX5_secretsPastLife 5 = .ok (.aload_n 0, 1) := by decide +kernel
theorem dX5_secretsPastLife_6 : decode cX5_secretsPastLife 6 = .ok (.getfield 42, 3) := by decide +kernel
theorem dX5_secretsPastLife_9 : decode cX5_secretsPastLife 9 = .ok (.if_icmp .ge 43, 3) := by decide +kernel
theorem dX5_secretsPastLife_12 : decode cX5_secretsPastLife 12 = .ok (.iload_n 1, 1) := by decide +kernel
theorem dX5_secretsPastLife_13 : decode cX5_secretsPastLife 13 = .ok (.aload_n 0, 1) := by decide +kernel
theorem dX5_secretsPastLife_14 : decode cX5_secretsPastLife 14 = .ok (.getfield 46, 3) := by decide +kernel
theorem dX5_secretsPastLife_17 : decode cX5_secretsPastLife 17 = .ok (.aload_n 0, 1) := by decide +kernel
theorem dX5_secretsPastLife_18 : decode cX5_secretsPastLife 18 = .ok (.getfield 11, 3) := by decide +kernel
theorem dX5_secretsPastLife_21 : decode cX5_secretsPastLife 21 = .ok (.iload_n 2, 1) := by decide +kernel
theorem dX5_secretsPastLife_22 : decode cX5_secretsPastLife 22 = .ok (.aaload, 1) := by decide +kernel
theorem dX5_secretsPastLife_23 : decode cX5_secretsPastLife 23 = .ok (.invokevirtual 164, 3) := by decide +kernel
theorem dX5_secretsPastLife_26 : decode cX5_secretsPastLife 26 = .ok (.isub, 1) := by decide +kernel
theorem dX5_secretsPastLife_27 : decode cX5_secretsPastLife 27 = .ok (.aload_n 0, 1) := by decide +kernel
theorem dX5_secretsPastLife_28 : decode cX5_secretsPastLife 28 = .ok (.getfield 11, 3) := by decide +kernel
theorem dX5_secretsPastLife_31 : decode cX5_secretsPastLife 31 = .ok (.iload_n 2, 1) := by decide +kernel
theorem dX5_secretsPastLife_32 : decode cX5_secretsPastLife 32 = .ok (.aaload, 1) := by decide +kernel
theorem dX5_secretsPastLife_33 : decode cX5_secretsPastLife 33 = .ok (.getfield 155, 3) := by decide +kernel
theorem dX5_secretsPastLife_36 : decode cX5_secretsPastLife 36 = .ok (.if_icmp .le 7, 3) := by decide +kernel
theorem dX5_secretsPastLife_39 : decode cX5_secretsPastLife 39 = .ok (.iconst 1, 1) := by decide +kernel
theorem dX5_secretsPastLife_40 : decode cX5_secretsPastLife 40 = .ok (.goto 4, 3) := by decide +kernel
theorem dX5_secretsPastLife_43 : decode cX5_secretsPastLife 43 = .ok (.iconst 0, 1) := by decide +kernel
theorem dX5_secretsPastLife_44 : decode cX5_secretsPastLife 44 = .ok (.iadd, 1) := by decide +kernel
theorem dX5_secretsPastLife_45 : decode cX5_secretsPastLife 45 = .ok (.istore_n 1, 1) := by decide +kernel
theorem dX5_secretsPastLife_46 : decode cX5_secretsPastLife 46 = .ok (.iinc 2 1, 3) := by decide +kernel
theorem dX5_secretsPastLife_49 : decode cX5_secretsPastLife 49 = .ok (.goto (-45), 3) := by decide +kernel
theorem dX5_secretsPastLife_52 : decode cX5_secretsPastLife 52 = .ok (.iload_n 1, 1) := by decide +kernel
theorem dX5_secretsPastLife_53 : decode cX5_secretsPastLife 53 = .ok (.ireturn, 1) := by decide +kernel
theorem dX6_init_0 : decode cX6_init 0 = .ok (.aload_n 0, 1) := by decide +kernel
theorem dX6_init_1 : decode cX6_init 1 = .ok (.invokespecial 1, 3) := by decide +kernel
theorem dX6_init_4 : decode cX6_init 4 = .ok (.aload_n 0, 1) := by decide +kernel
theorem dX6_init_5 : decode cX6_init 5 = .ok (.bipush 10, 2) := by decide +kernel
theorem dX6_init_7 : decode cX6_init 7 = .ok (.putfield 7, 3) := by decide +kernel
theorem dX6_init_10 : decode cX6_init 10 = .ok (.aload_n 0, 1) := by decide +kernel
theorem dX6_init_11 : decode cX6_init 11 = .ok (.bipush 100, 2) := by decide +kernel
theorem dX6_init_13 : decode cX6_init 13 = .ok (.putfield 13, 3) := by decide +kernel
theorem dX6_init_16 : decode cX6_init 16 = .ok (.aload_n 0, 1) := by decide +kernel
theorem dX6_init_17 : decode cX6_init 17 = .ok (.bipush 12, 2) := by decide +kernel
theorem dX6_init_19 : decode cX6_init 19 = .ok (.newarray .int, 2) := by decide +kernel
theorem dX6_init_21 : decode cX6_init 21 = .ok (.putfield 16, 3) := by decide +kernel
theorem dX6_init_24 : decode cX6_init 24 = .ok (.aload_n 0, 1) := by decide +kernel
theorem dX6_init_25 : decode cX6_init 25 = .ok (.bipush 12, 2) := by decide +kernel
theorem dX6_init_27 : decode cX6_init 27 = .ok (.newarray .int, 2) := by decide +kernel
theorem dX6_init_29 : decode cX6_init 29 = .ok (.putfield 20, 3) := by decide +kernel
theorem dX6_init_32 : decode cX6_init 32 = .ok (.aload_n 0, 1) := by decide +kernel
theorem dX6_init_33 : decode cX6_init 33 = .ok (.bipush 12, 2) := by decide +kernel
theorem dX6_init_35 : decode cX6_init 35 = .ok (.newarray .int, 2) := by decide +kernel
theorem dX6_init_37 : decode cX6_init 37 = .ok (.putfield 23, 3) := by decide +kernel
theorem dX6_init_40 : decode cX6_init 40 = .ok (.aload_n 0, 1) := by decide +kernel
theorem dX6_init_41 : decode cX6_init 41 = .ok (.bipush 12, 2) := by decide +kernel
theorem dX6_init_43 : decode cX6_init 43 = .ok (.newarray .int, 2) := by decide +kernel
theorem dX6_init_45 : decode cX6_init 45 = .ok (.putfield 26, 3) := by decide +kernel
theorem dX6_init_48 : decode cX6_init 48 = .ok (.aload_n 0, 1) := by decide +kernel
theorem dX6_init_49 : decode cX6_init 49 = .ok (.bipush 12, 2) := by decide +kernel
theorem dX6_init_51 : decode cX6_init 51 = .ok (.newarray .int, 2) := by decide +kernel
theorem dX6_init_53 : decode cX6_init 53 = .ok (.putfield 29, 3) := by decide +kernel
theorem dX6_init_56 : decode cX6_init 56 = .ok (.aload_n 0, 1) := by decide +kernel
theorem dX6_init_57 : decode cX6_init 57 = .ok (.bipush 12, 2) := by decide +kernel
theorem dX6_init_59 : decode cX6_init 59 = .ok (.newarray .int, 2) := by decide +kernel
theorem dX6_init_61 : decode cX6_init 61 = .ok (.putfield 32, 3) := by decide +kernel
theorem dX6_init_64 : decode cX6_init 64 = .ok (.aload_n 0, 1) := by decide +kernel
theorem dX6_init_65 : decode cX6_init 65 = .ok (.bipush 12, 2) := by decide +kernel
theorem dX6_init_67 : decode cX6_init 67 = .ok (.newarray .int, 2) := by decide +kernel
theorem dX6_init_69 : decode cX6_init 69 = .ok (.putfield 35, 3) := by decide +kernel
theorem dX6_init_72 : decode cX6_init 72 = .ok (.aload_n 0, 1) := by decide +kernel
theorem dX6_init_73 : decode cX6_init 73 = .ok (.bipush 12, 2) := by decide +kernel
theorem dX6_init_75 : decode cX6_init 75 = .ok (.newarray .int, 2) := by decide +kernel
theorem dX6_init_77 : decode cX6_init 77 = .ok (.putfield 38, 3) := by decide +kernel
theorem dX6_init_80 : decode cX6_init 80 = .ok (.aload_n 0, 1) := by decide +kernel
theorem dX6_init_81 : decode cX6_init 81 = .ok (.bipush 12, 2) := by decide +kernel
theorem dX6_init_83 : decode cX6_init 83 = .ok (.newarray .int, 2) := by decide +kernel
theorem dX6_init_85 : decode cX6_init 85 = .ok (.putfield 41, 3) := by decide +kernel
theorem dX6_init_88 : decode cX6_init 88 = .ok (.aload_n 0, 1) := by decide +kernel
theorem dX6_init_89 : decode cX6_init 89 = .ok (.bipush 12, 2) := by decide +kernel
theorem dX6_init_91 : decode cX6_init 91 = .ok (.newarray .int, 2) := by decide +kernel
theorem dX6_init_93 : decode cX6_init 93 = .ok (.putfield 44, 3) := by decide +kernel
theorem dX6_init_96 : decode cX6_init 96 = .ok (.aload_n 0, 1) := by decide +kernel
theorem dX6_init_97 : decode cX6_init 97 = .ok (.bipush 12, 2) := by decide +kernel
theorem dX6_init_99 : decode cX6_init 99 = .ok (.newarray .int, 2) := by decide +kernel
theorem dX6_init_101 : decode cX6_init 101 = .ok (.putfield 47, 3) := by decide +kernel
theorem dX6_init_104 : decode cX6_init 104 = .ok (.aload_n 0, 1) := by decide +kernel
theorem dX6_init_105 : decode cX6_init 105 = .ok (.bipush 12, 2) := by decide +kernel
theorem dX6_init_107 : decode cX6_init 107 = .ok (.newarray .int, 2) := by decide +kernel
theorem dX6_init_109 : decode cX6_init 109 = .ok (.putfield 50, 3) := by decide +kernel
theorem dX6_init_112 : decode cX6_init 112 = .ok (.aload_n 0, 1) := by decide +kernel
theorem dX6_init_113 : decode cX6_init 113 = .ok (.bipush 12, 2) := by decide +kernel
theorem dX6_init_115 : decode cX6_init 115 = .ok (.newarray .boolean, 2) := by decide +kernel
theorem dX6_init_117 : decode cX6_init 117 = .ok (.putfield 53, 3) := by decide +kernel
theorem dX6_init_120 : decode cX6_init 120 = .ok (.aload_n 0, 1) := by decide +kernel
theorem dX6_init_121 : decode cX6_init 121 = .ok (.sipush 144, 3) := by decide +kernel
theorem dX6_init_124 : decode cX6_init 124 = .ok (.newarray .boolean, 2) := by decide +kernel
theorem dX6_init_126 : decode cX6_init 126 = .ok (.putfield 57, 3) := by decide +kernel
theorem dX6_init_129 : decode cX6_init 129 = .ok (.aload_n 0, 1) := by decide +kernel
theorem dX6_init_130 : decode cX6_init 130 = .ok (.bipush 17, 2) := by decide +kernel
theorem dX6_init_132 : decode cX6_init 132 = .ok (.newarray .boolean, 2) := by decide +kernel
theorem dX6_init_134 : decode cX6_init 134 = .ok (.putfield 60, 3) := by decide +kernel
theorem dX6_init_137 : decode cX6_init 137 = .ok (.aload_n 0, 1) := by decide +kernel
theorem dX6_init_138 : decode cX6_init 138 = .ok (.bipush 120, 2) := by decide +kernel
theorem dX6_init_140 : decode cX6_init 140 = .ok (.newarray .int, 2) := by decide +kernel
theorem dX6_init_142 : decode cX6_init 142 = .ok (.putfield 63, 3) := by decide +kernel
theorem dX6_init_145 : decode cX6_init 145 = .ok (.aload_n 0, 1) := by decide +kernel
theorem dX6_init_146 : decode cX6_init 146 = .ok (.bipush 72, 2) := by decide +kernel
theorem dX6_init_148 : decode cX6_init 148 = .ok (.newarray .int, 2) := by decide +kernel
theorem dX6_init_150 : decode cX6_init 150 = .ok (.putfield 66, 3) := by decide +kernel
theorem dX6_init_153 : decode cX6_init 153 = .ok (.aload_n 0, 1) := by decide +kernel
theorem dX6_init_154 : decode cX6_init 154 = .ok (.bipush 72, 2) := by decide +kernel
theorem dX6_init_156 : decode cX6_init 156 = .ok (.newarray .int, 2) := by decide +kernel
theorem dX6_init_158 : decode cX6_init 158 = .ok (.putfield 69, 3) := by decide +kernel
theorem dX6_init_161 : decode cX6_init 161 = .ok (.aload_n 0, 1) := by decide +kernel
theorem dX6_init_162 : decode cX6_init 162 = .ok (.bipush 16, 2) := by decide +kernel
theorem dX6_init_164 : decode cX6_init 164 = .ok (.newarray .int, 2) := by decide +kernel
theorem dX6_init_166 : decode cX6_init 166 = .ok (.putfield 72, 3) := by decide +kernel
theorem dX6_init_169 : decode cX6_init 169 = .ok (.aload_n 0, 1) := by decide +kernel
theorem dX6_init_170 : decode cX6_init 170 = .ok (.bipush 72, 2) := by decide +kernel
theorem dX6_init_172 : decode cX6_init 172 = .ok (.newarray .int, 2) := by decide +kernel
theorem dX6_init_174 : decode cX6_init 174 = .ok (.putfield 75, 3) := by decide +kernel
theorem dX6_init_177 : decode cX6_init 177 = .ok (.aload_n 0, 1) := by decide +kernel
theorem dX6_init_178 : decode cX6_init 178 = .ok (.bipush 72, 2) := by decide +kernel
theorem dX6_init_180 : decode cX6_init 180 = .ok (.newarray .int, 2) := by decide +kernel
theorem dX6_init_182 : decode cX6_init 182 = .ok (.putfield 78, 3) := by decide +kernel
theorem dX6_init_185 : decode cX6_init 185 = .ok (.aload_n 0, 1) := by decide +kernel
theorem dX6_init_186 : decode cX6_init 186 = .ok (.sipush 600, 3) := by decide +kernel
theorem dX6_init_189 : decode cX6_init 189 = .ok (.newarray .int, 2) := by decide +kernel
theorem dX6_init_191 : decode cX6_init 191 = .ok (.putfield 81, 3) := by decide +kernel
theorem dX6_init_194 : decode cX6_init 194 = .ok (.aload_n 0, 1) := by decide +kernel
theorem dX6_init_195 : decode cX6_init 195 = .ok (.sipush 600, 3) := by decide +kernel
theorem dX6_init_198 : decode cX6_init 198 = .ok (.newarray .int, 2) := by decide +kernel
theorem dX6_init_200 : decode cX6_init 200 = .ok (.putfield 84, 3) := by decide +kernel
theorem dX6_init_203 : decode cX6_init 203 = .ok (.aload_n 0, 1) := by decide +kernel
theorem dX6_init_204 : decode cX6_init 204 = .ok (.sipush 600, 3) := by decide +kernel
theorem dX6_init_207 : decode cX6_init 207 = .ok (.newarray .int, 2) := by decide +kernel
theorem dX6_init_209 : decode cX6_init 209 = .ok (.putfield 87, 3) := by decide +kernel
theorem dX6_init_212 : decode cX6_init 212 = .ok (.aload_n 0, 1) := by decide +kernel
theorem dX6_init_213 : decode cX6_init 213 = .ok (.sipush 600, 3) := by decide +kernel
theorem dX6_init_216 : decode cX6_init 216 = .ok (.newarray .int, 2) := by decide +kernel
theorem dX6_init_218 : decode cX6_init 218 = .ok (.putfield 90, 3) := by decide +kernel
theorem dX6_init_221 : decode cX6_init 221 = .ok (.aload_n 0, 1) := by decide +kernel
theorem dX6_init_222 : decode cX6_init 222 = .ok (.sipush 600, 3) := by decide +kernel
theorem dX6_init_225 : decode cX6_init 225 = .ok (.newarray .int, 2) := by decide +kernel
theorem dX6_init_227 : decode cX6_init 227 = .ok (.putfield 93, 3) := by decide +kernel
theorem dX6_init_230 : decode cX6_init 230 = .ok (.aload_n 0, 1) := by decide +kernel
theorem dX6_init_231 : decode cX6_init 231 = .ok (.sipush 600, 3) := by decide +kernel
theorem dX6_init_234 : decode cX6_init 234 = .ok (.newarray .boolean, 2) := by decide +kernel
theorem dX6_init_236 : decode cX6_init 236 = .ok (.putfield 96, 3) := by decide +kernel
theorem dX6_init_239 : decode cX6_init 239 = .ok (.aload_n 0, 1) := by decide +kernel
theorem dX6_init_240 : decode cX6_init 240 = .ok (.sipush 500, 3) := by decide +kernel
theorem dX6_init_243 : decode cX6_init 243 = .ok (.newarray .int, 2) := by decide +kernel
theorem dX6_init_245 : decode cX6_init 245 = .ok (.putfield 99, 3) := by decide +kernel
theorem dX6_init_248 : decode cX6_init 248 = .ok (.aload_n 0, 1) := by decide +kernel
theorem dX6_init_249 : decode cX6_init 249 = .ok (.sipush 500, 3) := by decide +kernel
theorem dX6_init_252 : decode cX6_init 252 = .ok (.newarray .int, 2) := by decide +kernel
theorem dX6_init_254 : decode cX6_init 254 = .ok (.putfield 102, 3) := by decide +kernel
theorem dX6_init_257 : decode cX6_init 257 = .ok (.aload_n 0, 1) := by decide +kernel
theorem dX6_init_258 : decode cX6_init 258 = .ok (.sipush 500, 3) := by decide +kernel
theorem dX6_init_261 : decode cX6_init 261 = .ok (.newarray .int, 2) := by decide +kernel
theorem dX6_init_263 : decode cX6_init 263 = .ok (.putfield 105, 3) := by decide +kernel
theorem dX6_init_266 : decode cX6_init 266 = .ok (.aload_n 0, 1) := by decide +kernel
theorem dX6_init_267 : decode cX6_init 267 = .ok (.sipush 500, 3) := by decide +kernel
theorem dX6_init_270 : decode cX6_init 270 = .ok (.newarray .int, 2) := by decide +kernel
theorem dX6_init_272 : decode cX6_init 272 = .ok (.putfield 108, 3) := by decide +kernel
theorem dX6_init_275 : decode cX6_init 275 = .ok (.aload_n 0, 1) := by decide +kernel
theorem dX6_init_276 : decode cX6_init 276 = .ok (.sipush 500, 3) := by decide +kernel
theorem dX6_init_279 : decode cX6_init 279 = .ok (.newarray .boolean, 2) := by decide +kernel
theorem dX6_init_281 : decode cX6_init 281 = .ok (.putfield 111, 3) := by decide +kernel
theorem dX6_init_284 : decode cX6_init 284 = .ok (.aload_n 0, 1) := by decide +kernel
theorem dX6_init_285 : decode cX6_init 285 = .ok (.bipush 12, 2) := by decide +kernel
theorem dX6_init_287 : decode cX6_init 287 = .ok (.newarray .boolean, 2) := by decide +kernel
theorem dX6_init_289 : decode cX6_init 289 = .ok (.putfield 114, 3) := by decide +kernel
theorem dX6_init_292 : decode cX6_init 292 = .ok (.aload_n 0, 1) := by decide +kernel
theorem dX6_init_293 : decode cX6_init 293 = .ok (.bipush 12, 2) := by decide +kernel
theorem dX6_init_295 : decode cX6_init 295 = .ok (.newarray .boolean, 2) := by decide +kernel
theorem dX6_init_297 : decode cX6_init 297 = .ok (.putfield 117, 3) := by decide +kernel
theorem dX6_init_300 : decode cX6_init 300 = .ok (.iconst 0, 1) := by decide +kernel
theorem dX6_init_301 : decode cX6_init 301 = .ok (.istore_n 1, 1) := by decide +kernel
theorem dX6_init_302 : decode cX6_init 302 = .ok (.iload_n 1, 1) := by decide +kernel
theorem dX6_init_303 : decode cX6_init 303 = .ok (.bipush 16, 2) := by decide +kernel
theorem dX6_init_305 : decode cX6_init 305 = .ok (.if_icmp .ge 16, 3) := by decide +kernel
theorem dX6_init_308 : decode cX6_init 308 = .ok (.aload_n 0, 1) := by decide +kernel
theorem dX6_init_309 : decode cX6_init 309 = .ok (.getfield 72, 3) := by decide +kernel
theorem dX6_init_312 : decode cX6_init 312 = .ok (.iload_n 1, 1) := by decide +kernel
theorem dX6_init_313 : decode cX6_init 313 = .ok (.iconst 1, 1) := by decide +kernel
theorem dX6_init_314 : decode cX6_init 314 = .ok (.iastore, 1) := by decide +kernel
theorem dX6_init_315 : decode cX6_init 315 = .ok (.iinc 1 1, 3) := by decide +kernel
theorem dX6_init_318 : decode cX6_init 318 = .ok (.goto (-16), 3) := by decide +kernel
theorem dX6_init_321 : decode cX6_init 321 = .ok (.return_, 1) := by decide +kernel
theorem dX6_isIn_0 : decode cX6_isIn 0 = .ok (.iload_n 0, 1) := by decide +kernel
theorem dX6_isIn_1 : decode cX6_isIn 1 = .ok (.iload_n 1, 1) := by decide +kernel
theorem dX6_isIn_2 : decode cX6_isIn 2 = .ok (.if_icmp .lt 12, 3) := by decide +kernel
theorem dX6_isIn_5 : decode cX6_isIn 5 = .ok (.iload_n 0, 1) := by decide +kernel
theorem dX6_isIn_6 : decode cX6_isIn 6 = .ok (.iload_n 2, 1) := by decide +kernel
theorem dX6_isIn_7 : decode cX6_isIn 7 = .ok (.if_icmp .gt 7, 3) := by decide +kernel
theorem dX6_isIn_10 : decode cX6_isIn 10 = .ok (.iconst 1, 1) := by decide +kernel
theorem dX6_isIn_11 : decode cX6_isIn 11 = .ok (.goto 4, 3) := by decide +kernel
theorem dX6_isIn_14 : decode cX6_isIn 14 = .ok (.iconst 0, 1) := by decide +kernel
theorem dX6_isIn_15 : decode cX6_isIn 15 = .ok (.ireturn, 1) := by decide +kernel
theorem dX6_isSecret_0 : decode cX6_isSecret 0 = .ok (.iload_n 1, 1) := by decide +kernel
theorem dX6_isSecret_1 : decode cX6_isSecret 1 = .ok (.ifCond .lt 15, 3) := by decide +kernel
theorem dX6_isSecret_4 : decode cX6_isSecret 4 = .ok (.iload_n 1, 1) := by decide +kernel
theorem dX6_isSecret_5 : decode cX6_isSecret 5 = .ok (.aload_n 0, 1) := by decide +kernel
theorem dX6_isSecret_6 : decode cX6_isSecret 6 = .ok (.getfield 123, 3) := by decide +kernel
theorem dX6_isSecret_9 : decode cX6_isSecret 9 = .ok (.if_icmp .ge 7, 3) := by decide +kernel
theorem dX6_isSecret_12 : decode cX6_isSecret 12 = .ok (.iconst 1, 1) := by decide +kernel
theorem dX6_isSecret_13 : decode cX6_isSecret 13 = .ok (.goto 4, 3) := by decide +kernel
theorem dX6_isSecret_16 : decode cX6_isSecret 16 = .ok (.iconst 0, 1) := by decide +kernel
theorem dX6_isSecret_17 : decode cX6_isSecret 17 = .ok (.ireturn, 1) := by decide +kernel
theorem dX6_isOf_0 : decode cX6_isOf 0 = .ok (.iload_n 0, 1) := by decide +kernel
theorem dX6_isOf_1 : decode cX6_isOf 1 = .ok (.iload_n 1, 1) := by decide +kernel
theorem dX6_isOf_2 : decode cX6_isOf 2 = .ok (.ishr, 1) := by decide +kernel
theorem dX6_isOf_3 : decode cX6_isOf 3 = .ok (.iconst 1, 1) := by decide +kernel
theorem dX6_isOf_4 : decode cX6_isOf 4 = .ok (.iand, 1) := by decide +kernel
theorem dX6_isOf_5 : decode cX6_isOf 5 = .ok (.iconst 1, 1) := by decide +kernel
theorem dX6_isOf_6 : decode cX6_isOf 6 = .ok (.if_icmp .ne 7, 3) := by decide +kernel
theorem dX6_isOf_9 : decode cX6_isOf 9 = .ok (.iconst 1, 1) := by decide +kernel
theorem dX6_isOf_10 : decode cX6_isOf 10 = .ok (.goto 4, 3) := by decide +kernel
theorem dX6_isOf_13 : decode cX6_isOf 13 = .ok (.iconst 0, 1) := by decide +kernel
theorem dX6_isOf_14 : decode cX6_isOf 14 = .ok (.ireturn, 1) := by decide +kernel
set_option maxRecDepth 20000 in
theorem dX6_secret_0 : decode cX6_secret 0 = .ok (.aload_n 0, 1) := by decide +kernel
theorem dX6_secret_1 : decode cX6_secret 1 = .ok (.iconst 0, 1) := by decide +kernel
theorem dX6_secret_2 : decode cX6_secret 2 = .ok (.putfield 120, 3) := by decide +kernel
theorem dX6_secret_5 : decode cX6_secret 5 = .ok (.aload_n 0, 1) := by decide +kernel
theorem dX6_secret_6 : decode cX6_secret 6 = .ok (.getfield 123, 3) := by decide +kernel
theorem dX6_secret_9 : decode cX6_secret 9 = .ok (.bipush 12, 2) := by decide +kernel
theorem dX6_secret_11 : decode cX6_secret 11 = .ok (.if_icmp .eq 45, 3) := by decide +kernel
theorem dX6_secret_14 : decode cX6_secret 14 = .ok (.iload_n 1, 1) := by decide +kernel
theorem dX6_secret_15 : decode cX6_secret 15 = .ok (.iconst 0, 1) := by decide +kernel
theorem dX6_secret_16 : decode cX6_secret 16 = .ok (.iconst 1, 1) := by decide +kernel
theorem dX6_secret_17 : decode cX6_secret 17 = .ok (.invokestatic 126, 3) := by decide +kernel
theorem dX6_secret_20 : decode cX6_secret 20 = .ok (.ifCond .eq 36, 3) := by decide +kernel
theorem dX6_secret_23 : decode cX6_secret 23 = .ok (.iload_n 2, 1) := by decide +kernel
theorem dX6_secret_24 : decode cX6_secret 24 = .ok (.iconst 0, 1) := by decide +kernel
theorem dX6_secret_25 : decode cX6_secret 25 = .ok (.sipush 1023, 3) := by decide +kernel
theorem dX6_secret_28 : decode cX6_secret 28 = .ok (.invokestatic 126, 3) := by decide +kernel
theorem dX6_secret_31 : decode cX6_secret 31 = .ok (.ifCond .eq 25, 3) := by decide +kernel
theorem dX6_secret_34 : decode cX6_secret 34 = .ok (.iload_n 3, 1) := by decide +kernel
theorem dX6_secret_35 : decode cX6_secret 35 = .ok (.iconst 1, 1) := by decide +kernel
theorem dX6_secret_36 : decode cX6_secret 36 = .ok (.bipush 63, 2) := by decide +kernel
theorem dX6_secret_38 : decode cX6_secret 38 = .ok (.invokestatic 126, 3) := by decide +kernel
theorem dX6_secret_41 : decode cX6_secret 41 = .ok (.ifCond .eq 15, 3) := by decide +kernel
theorem dX6_secret_44 : decode cX6_secret 44 = .ok (.iload 4, 2) := by decide +kernel
theorem dX6_secret_46 : decode cX6_secret 46 = .ok (.iconst 1, 1) := by decide +kernel
theorem dX6_secret_47 : decode cX6_secret 47 = .ok (.sipush 10000, 3) := by decide +kernel
theorem dX6_secret_50 : decode cX6_secret 50 = .ok (.invokestatic 126, 3) := by decide +kernel
theorem dX6_secret_53 : decode cX6_secret 53 = .ok (.ifCond .ne 5, 3) := by decide +kernel
theorem dX6_secret_56 : decode cX6_secret 56 = .ok (.iconst (-1), 1) := by decide +kernel
theorem dX6_secret_57 : decode cX6_secret 57 = .ok (.ireturn, 1) := by decide +kernel
theorem dX6_secret_58 : decode cX6_secret 58 = .ok (.aload_n 0, 1) := by decide +kernel
theorem dX6_secret_59 : decode cX6_secret 59 = .ok (.getfield 123, 3) := by decide +kernel
theorem dX6_secret_62 : decode cX6_secret 62 = .ok (.istore 5, 2) := by decide +kernel
theorem dX6_secret_64 : decode cX6_secret 64 = .ok (.aload_n 0, 1) := by decide +kernel
theorem dX6_secret_65 : decode cX6_secret 65 = .ok (.getfield 16, 3) := by decide +kernel
theorem dX6_secret_68 : decode cX6_secret 68 = .ok (.iload 5, 2) := by decide +kernel
theorem dX6_secret_70 : decode cX6_secret 70 = .ok (.iload_n 1, 1) := by decide +kernel
theorem dX6_secret_71 : decode cX6_secret 71 = .ok (.iastore, 1) := by decide +kernel
theorem dX6_secret_72 : decode cX6_secret 72 = .ok (.aload_n 0, 1) := by decide +kernel
theorem dX6_secret_73 : decode cX6_secret 73 = .ok (.getfield 20, 3) := by decide +kernel
theorem dX6_secret_76 : decode cX6_secret 76 = .ok (.iload 5, 2) := by decide +kernel
theorem dX6_secret_78 : decode cX6_secret 78 = .ok (.iload_n 2, 1) := by decide +kernel
theorem dX6_secret_79 : decode cX6_secret 79 = .ok (.iastore, 1) := by decide +kernel
theorem dX6_secret_80 : decode cX6_secret 80 = .ok (.aload_n 0, 1) := by decide +kernel
theorem dX6_secret_81 : decode cX6_secret 81 = .ok (.getfield 23, 3) := by decide +kernel
theorem dX6_secret_84 : decode cX6_secret 84 = .ok (.iload 5, 2) := by decide +kernel
theorem dX6_secret_86 : decode cX6_secret 86 = .ok (.iload_n 3, 1) := by decide +kernel
theorem dX6_secret_87 : decode cX6_secret 87 = .ok (.iastore, 1) := by decide +kernel
theorem dX6_secret_88 : decode cX6_secret 88 = .ok (.aload_n 0, 1) := by decide +kernel
theorem dX6_secret_89 : decode cX6_secret 89 = .ok (.getfield 26, 3) := by decide +kernel
theorem dX6_secret_92 : decode cX6_secret 92 = .ok (.iload 5, 2) := by decide +kernel
theorem dX6_secret_94 : decode cX6_secret 94 = .ok (.iload 4, 2) := by decide +kernel
theorem dX6_secret_96 : decode cX6_secret 96 = .ok (.iastore, 1) := by decide +kernel
theorem dX6_secret_97 : decode cX6_secret 97 = .ok (.aload_n 0, 1) := by decide +kernel
theorem dX6_secret_98 : decode cX6_secret 98 = .ok (.getfield 32, 3) := by decide +kernel
theorem dX6_secret_101 : decode cX6_secret 101 = .ok (.iload 5, 2) := by decide +kernel
theorem dX6_secret_103 : decode cX6_secret 103 = .ok (.aload_n 0, 1) := by decide +kernel
theorem dX6_secret_104 : decode cX6_secret 104 = .ok (.getfield 130, 3) := by decide +kernel
theorem dX6_secret_107 : decode cX6_secret 107 = .ok (.iastore, 1) := by decide +kernel
theorem dX6_secret_108 : decode cX6_secret 108 = .ok (.iconst 0, 1) := by decide +kernel
theorem dX6_secret_109 : decode cX6_secret 109 = .ok (.istore 6, 2) := by decide +kernel
theorem dX6_secret_111 : decode cX6_secret 111 = .ok (.iload 6, 2) := by decide +kernel
theorem dX6_secret_113 : decode cX6_secret 113 = .ok (.bipush 6, 2) := by decide +kernel
theorem dX6_secret_115 : decode cX6_secret 115 = .ok (.if_icmp .ge 54, 3) := by decide +kernel
theorem dX6_secret_118 : decode cX6_secret 118 = .ok (.aload_n 0, 1) := by decide +kernel
theorem dX6_secret_119 : decode cX6_secret 119 = .ok (.getfield 66, 3) := by decide +kernel
theorem dX6_secret_122 : decode cX6_secret 122 = .ok (.bipush 6, 2) := by decide +kernel
theorem dX6_secret_124 : decode cX6_secret 124 = .ok (.iload 5, 2) := by decide +kernel
theorem dX6_secret_126 : decode cX6_secret 126 = .ok (.imul, 1) := by decide +kernel
theorem dX6_secret_127 : decode cX6_secret 127 = .ok (.iload 6, 2) := by decide +kernel
theorem dX6_secret_129 : decode cX6_secret 129 = .ok (.iadd, 1) := by decide +kernel
theorem dX6_secret_130 : decode cX6_secret 130 = .ok (.iconst 0, 1) := by decide +kernel
theorem dX6_secret_131 : decode cX6_secret 131 = .ok (.iastore, 1) := by decide +kernel
theorem dX6_secret_132 : decode cX6_secret 132 = .ok (.aload_n 0, 1) := by decide +kernel
theorem dX6_secret_133 : decode cX6_secret 133 = .ok (.getfield 75, 3) := by decide +kernel
theorem dX6_secret_136 : decode cX6_secret 136 = .ok (.bipush 6, 2) := by decide +kernel
theorem dX6_secret_138 : decode cX6_secret 138 = .ok (.iload 5, 2) := by decide +kernel
theorem dX6_secret_140 : decode cX6_secret 140 = .ok (.imul, 1) := by decide +kernel
theorem dX6_secret_141 : decode cX6_secret 141 = .ok (.iload 6, 2) := by decide +kernel
theorem dX6_secret_143 : decode cX6_secret 143 = .ok (.iadd, 1) := by decide +kernel
theorem dX6_secret_144 : decode cX6_secret 144 = .ok (.aload_n 0, 1) := by decide +kernel
theorem dX6_secret_145 : decode cX6_secret 145 = .ok (.getfield 130, 3) := by decide +kernel
theorem dX6_secret_148 : decode cX6_secret 148 = .ok (.iastore, 1) := by decide +kernel
theorem dX6_secret_149 : decode cX6_secret 149 = .ok (.aload_n 0, 1) := by decide +kernel
theorem dX6_secret_150 : decode cX6_secret 150 = .ok (.getfield 69, 3) := by decide +kernel
theorem dX6_secret_153 : decode cX6_secret 153 = .ok (.bipush 6, 2) := by decide +kernel
theorem dX6_secret_155 : decode cX6_secret 155 = .ok (.iload 5, 2) := by decide +kernel
theorem dX6_secret_157 : decode cX6_secret 157 = .ok (.imul, 1) := by decide +kernel
theorem dX6_secret_158 : decode cX6_secret 158 = .ok (.iload 6, 2) := by decide +kernel
theorem dX6_secret_160 : decode cX6_secret 160 = .ok (.iadd, 1) := by decide +kernel
theorem dX6_secret_161 : decode cX6_secret 161 = .ok (.iconst (-1), 1) := by decide +kernel
theorem dX6_secret_162 : decode cX6_secret 162 = .ok (.iastore, 1) := by decide +kernel
theorem dX6_secret_163 : decode cX6_secret 163 = .ok (.iinc 6 1, 3) := by decide +kernel
theorem dX6_secret_166 : decode cX6_secret 166 = .ok (.goto (-55), 3) := by decide +kernel
theorem dX6_secret_169 : decode cX6_secret 169 = .ok (.aload_n 0, 1) := by decide +kernel
theorem dX6_secret_170 : decode cX6_secret 170 = .ok (.dup, 1) := by decide +kernel
theorem dX6_secret_171 : decode cX6_secret 171 = .ok (.getfield 123, 3) := by decide +kernel
theorem dX6_secret_174 : decode cX6_secret 174 = .ok (.iconst 1, 1) := by decide +kernel
theorem dX6_secret_175 : decode cX6_secret 175 = .ok (.iadd, 1) := by decide +kernel
theorem dX6_secret_176 : decode cX6_secret 176 = .ok (.putfield 123, 3) := by decide +kernel
theorem dX6_secret_179 : decode cX6_secret 179 = .ok (.iload 5, 2) := by decide +kernel
theorem dX6_secret_181 : decode cX6_secret 181 = .ok (.ireturn, 1) := by decide +kernel
theorem dX6_hangsOn_0 : decode cX6_hangsOn 0 = .ok (.iconst 0, 1) := by decide +kernel
theorem dX6_hangsOn_1 : decode cX6_hangsOn 1 = .ok (.istore_n 3, 1) := by decide +kernel
theorem dX6_hangsOn_2 : decode cX6_hangsOn 2 = .ok (.iload_n 3, 1) := by decide +kernel
theorem dX6_hangsOn_3 : decode cX6_hangsOn 3 = .ok (.bipush 12, 2) := by decide +kernel
theorem dX6_hangsOn_5 : decode cX6_hangsOn 5 = .ok (.if_icmp .ge 16, 3) := by decide +kernel
theorem dX6_hangsOn_8 : decode cX6_hangsOn 8 = .ok (.aload_n 0, 1) := by decide +kernel
theorem dX6_hangsOn_9 : decode cX6_hangsOn 9 = .ok (.getfield 114, 3) := by decide +kernel
theorem dX6_hangsOn_12 : decode cX6_hangsOn 12 = .ok (.iload_n 3, 1) := by decide +kernel
theorem dX6_hangsOn_13 : decode cX6_hangsOn 13 = .ok (.iconst 0, 1) := by decide +kernel
theorem dX6_hangsOn_14 : decode cX6_hangsOn 14 = .ok (.bastore, 1) := by decide +kernel
theorem dX6_hangsOn_15 : decode cX6_hangsOn 15 = .ok (.iinc 3 1, 3) := by decide +kernel
theorem dX6_hangsOn_18 : decode cX6_hangsOn 18 = .ok (.goto (-16), 3) := by decide +kernel
theorem dX6_hangsOn_21 : decode cX6_hangsOn 21 = .ok (.iconst 1, 1) := by decide +kernel
theorem dX6_hangsOn_22 : decode cX6_hangsOn 22 = .ok (.istore_n 3, 1) := by decide +kernel
theorem dX6_hangsOn_23 : decode cX6_hangsOn 23 = .ok (.iload_n 3, 1) := by decide +kernel
theorem dX6_hangsOn_24 : decode cX6_hangsOn 24 = .ok (.ifCond .eq 99, 3) := by decide +kernel
theorem dX6_hangsOn_27 : decode cX6_hangsOn 27 = .ok (.iconst 0, 1) := by decide +kernel
theorem dX6_hangsOn_28 : decode cX6_hangsOn 28 = .ok (.istore_n 3, 1) := by decide +kernel
theorem dX6_hangsOn_29 : decode cX6_hangsOn 29 = .ok (.iconst 0, 1) := by decide +kernel
theorem dX6_hangsOn_30 : decode cX6_hangsOn 30 = .ok (.istore 4, 2) := by decide +kernel
theorem dX6_hangsOn_32 : decode cX6_hangsOn 32 = .ok (.iload 4, 2) := by decide +kernel
theorem dX6_hangsOn_34 : decode cX6_hangsOn 34 = .ok (.aload_n 0, 1) := by decide +kernel
theorem dX6_hangsOn_35 : decode cX6_hangsOn 35 = .ok (.getfield 123, 3) := by decide +kernel
theorem dX6_hangsOn_38 : decode cX6_hangsOn 38 = .ok (.if_icmp .ge 82, 3) := by decide +kernel
theorem dX6_hangsOn_41 : decode cX6_hangsOn 41 = .ok (.iconst 0, 1) := by decide +kernel
theorem dX6_hangsOn_42 : decode cX6_hangsOn 42 = .ok (.istore 5, 2) := by decide +kernel
theorem dX6_hangsOn_44 : decode cX6_hangsOn 44 = .ok (.iload 5, 2) := by decide +kernel
theorem dX6_hangsOn_46 : decode cX6_hangsOn 46 = .ok (.aload_n 0, 1) := by decide +kernel
theorem dX6_hangsOn_47 : decode cX6_hangsOn 47 = .ok (.getfield 123, 3) := by decide +kernel
theorem dX6_hangsOn_50 : decode cX6_hangsOn 50 = .ok (.if_icmp .ge 64, 3) := by decide +kernel
theorem dX6_hangsOn_53 : decode cX6_hangsOn 53 = .ok (.aload_n 0, 1) := by decide +kernel
theorem dX6_hangsOn_54 : decode cX6_hangsOn 54 = .ok (.getfield 57, 3) := by decide +kernel
theorem dX6_hangsOn_57 : decode cX6_hangsOn 57 = .ok (.bipush 12, 2) := by decide +kernel
theorem dX6_hangsOn_59 : decode cX6_hangsOn 59 = .ok (.iload 4, 2) := by decide +kernel
theorem dX6_hangsOn_61 : decode cX6_hangsOn 61 = .ok (.imul, 1) := by decide +kernel
theorem dX6_hangsOn_62 : decode cX6_hangsOn 62 = .ok (.iload 5, 2) := by decide +kernel
theorem dX6_hangsOn_64 : decode cX6_hangsOn 64 = .ok (.iadd, 1) := by decide +kernel
theorem dX6_hangsOn_65 : decode cX6_hangsOn 65 = .ok (.baload, 1) := by decide +kernel
theorem dX6_hangsOn_66 : decode cX6_hangsOn 66 = .ok (.ifCond .eq 42, 3) := by decide +kernel
theorem dX6_hangsOn_69 : decode cX6_hangsOn 69 = .ok (.iload 4, 2) := by decide +kernel
theorem dX6_hangsOn_71 : decode cX6_hangsOn 71 = .ok (.iload_n 1, 1) := by decide +kernel
theorem dX6_hangsOn_72 : decode cX6_hangsOn 72 = .ok (.if_icmp .eq 13, 3) := by decide +kernel
theorem dX6_hangsOn_75 : decode cX6_hangsOn 75 = .ok (.aload_n 0, 1) := by decide +kernel
theorem dX6_hangsOn_76 : decode cX6_hangsOn 76 = .ok (.getfield 114, 3) := by decide +kernel
theorem dX6_hangsOn_79 : decode cX6_hangsOn 79 = .ok (.iload 4, 2) := by decide +kernel
theorem dX6_hangsOn_81 : decode cX6_hangsOn 81 = .ok (.baload, 1) := by decide +kernel
theorem dX6_hangsOn_82 : decode cX6_hangsOn 82 = .ok (.ifCond .eq 26, 3) := by decide +kernel
theorem dX6_hangsOn_85 : decode cX6_hangsOn 85 = .ok (.aload_n 0, 1) := by decide +kernel
theorem dX6_hangsOn_86 : decode cX6_hangsOn 86 = .ok (.getfield 114, 3) := by decide +kernel
theorem dX6_hangsOn_89 : decode cX6_hangsOn 89 = .ok (.iload 5, 2) := by decide +kernel
theorem dX6_hangsOn_91 : decode cX6_hangsOn 91 = .ok (.baload, 1) := by decide +kernel
theorem dX6_hangsOn_92 : decode cX6_hangsOn 92 = .ok (.ifCond .eq 6, 3) := by decide +kernel
end
section
theorem dX6_hangsOn_95 : decode cX6_hangsOn 95 = .ok (.goto 13, 3) := by decide +kernel
theorem dX6_hangsOn_98 : decode cX6_hangsOn 98 = .ok (.aload_n 0, 1) := by decide +kernel
theorem dX6_hangsOn_99 : decode cX6_hangsOn 99 = .ok (.getfield 114, 3) := by decide +kernel
theorem dX6_hangsOn_102 : decode cX6_hangsOn 102 = .ok (.iload 5, 2) := by decide +kernel
theorem dX6_hangsOn_104 : decode cX6_hangsOn 104 = .ok (.iconst 1, 1) := by decide +kernel
theorem dX6_hangsOn_105 : decode cX6_hangsOn 105 = .ok (.bastore, 1) := by decide +kernel
theorem dX6_hangsOn_106 : decode cX6_hangsOn 106 = .ok (.iconst 1, 1) := by decide +kernel
theorem dX6_hangsOn_107 : decode cX6_hangsOn 107 = .ok (.istore_n 3, 1) := by decide +kernel
theorem dX6_hangsOn_108 : decode cX6_hangsOn 108 = .ok (.iinc 5 1, 3) := by decide +kernel
theorem dX6_hangsOn_111 : decode cX6_hangsOn 111 = .ok (.goto (-67), 3) := by decide +kernel
theorem dX6_hangsOn_114 : decode cX6_hangsOn 114 = .ok (.iinc 4 1, 3) := by decide +kernel
theorem dX6_hangsOn_117 : decode cX6_hangsOn 117 = .ok (.goto (-85), 3) := by decide +kernel
theorem dX6_hangsOn_120 : decode cX6_hangsOn 120 = .ok (.goto (-97), 3) := by decide +kernel
theorem dX6_hangsOn_123 : decode cX6_hangsOn 123 = .ok (.aload_n 0, 1) := by decide +kernel
theorem dX6_hangsOn_124 : decode cX6_hangsOn 124 = .ok (.getfield 114, 3) := by decide +kernel
theorem dX6_hangsOn_127 : decode cX6_hangsOn 127 = .ok (.iload_n 2, 1) := by decide +kernel
theorem dX6_hangsOn_128 : decode cX6_hangsOn 128 = .ok (.baload, 1) := by decide +kernel
theorem dX6_hangsOn_129 : decode cX6_hangsOn 129 = .ok (.ireturn, 1) := by decide +kernel
set_option maxRecDepth 20000 in
theorem dX6_needs_0 : decode cX6_needs 0 = .ok (.aload_n 0, 1) := by decide +kernel
theorem dX6_needs_1 : decode cX6_needs 1 = .ok (.iconst 0, 1) := by decide +kernel
theorem dX6_needs_2 : decode cX6_needs 2 = .ok (.putfield 120, 3) := by decide +kernel
theorem dX6_needs_5 : decode cX6_needs 5 = .ok (.aload_n 0, 1) := by decide +kernel
theorem dX6_needs_6 : decode cX6_needs 6 = .ok (.iload_n 1, 1) := by decide +kernel
theorem dX6_needs_7 : decode cX6_needs 7 = .ok (.invokevirtual 133, 3) := by decide +kernel
theorem dX6_needs_10 : decode cX6_needs 10 = .ok (.ifCond .eq 44, 3) := by decide +kernel
theorem dX6_needs_13 : decode cX6_needs 13 = .ok (.aload_n 0, 1) := by decide +kernel
theorem dX6_needs_14 : decode cX6_needs 14 = .ok (.iload_n 2, 1) := by decide +kernel
theorem dX6_needs_15 : decode cX6_needs 15 = .ok (.invokevirtual 133, 3) := by decide +kernel
theorem dX6_needs_18 : decode cX6_needs 18 = .ok (.ifCond .eq 36, 3) := by decide +kernel
theorem dX6_needs_21 : decode cX6_needs 21 = .ok (.aload_n 0, 1) := by decide +kernel
theorem dX6_needs_22 : decode cX6_needs 22 = .ok (.getfield 57, 3) := by decide +kernel
theorem dX6_needs_25 : decode cX6_needs 25 = .ok (.bipush 12, 2) := by decide +kernel
theorem dX6_needs_27 : decode cX6_needs 27 = .ok (.iload_n 1, 1) := by decide +kernel
theorem dX6_needs_28 : decode cX6_needs 28 = .ok (.imul, 1) := by decide +kernel
theorem dX6_needs_29 : decode cX6_needs 29 = .ok (.iload_n 2, 1) := by decide +kernel
theorem dX6_needs_30 : decode cX6_needs 30 = .ok (.iadd, 1) := by decide +kernel
theorem dX6_needs_31 : decode cX6_needs 31 = .ok (.baload, 1) := by decide +kernel
theorem dX6_needs_32 : decode cX6_needs 32 = .ok (.iload_n 3, 1) := by decide +kernel
theorem dX6_needs_33 : decode cX6_needs 33 = .ok (.if_icmp .eq 21, 3) := by decide +kernel
theorem dX6_needs_36 : decode cX6_needs 36 = .ok (.iload_n 3, 1) := by decide +kernel
theorem dX6_needs_37 : decode cX6_needs 37 = .ok (.ifCond .eq 19, 3) := by decide +kernel
theorem dX6_needs_40 : decode cX6_needs 40 = .ok (.iload_n 1, 1) := by decide +kernel
theorem dX6_needs_41 : decode cX6_needs 41 = .ok (.iload_n 2, 1) := by decide +kernel
theorem dX6_needs_42 : decode cX6_needs 42 = .ok (.if_icmp .eq 12, 3) := by decide +kernel
theorem dX6_needs_45 : decode cX6_needs 45 = .ok (.aload_n 0, 1) := by decide +kernel
theorem dX6_needs_46 : decode cX6_needs 46 = .ok (.iload_n 2, 1) := by decide +kernel
theorem dX6_needs_47 : decode cX6_needs 47 = .ok (.iload_n 1, 1) := by decide +kernel
theorem dX6_needs_48 : decode cX6_needs 48 = .ok (.invokevirtual 137, 3) := by decide +kernel
theorem dX6_needs_51 : decode cX6_needs 51 = .ok (.ifCond .eq 5, 3) := by decide +kernel
theorem dX6_needs_54 : decode cX6_needs 54 = .ok (.iconst 0, 1) := by decide +kernel
theorem dX6_needs_55 : decode cX6_needs 55 = .ok (.ireturn, 1) := by decide +kernel
theorem dX6_needs_56 : decode cX6_needs 56 = .ok (.aload_n 0, 1) := by decide +kernel
theorem dX6_needs_57 : decode cX6_needs 57 = .ok (.getfield 57, 3) := by decide +kernel
theorem dX6_needs_60 : decode cX6_needs 60 = .ok (.bipush 12, 2) := by decide +kernel
theorem dX6_needs_62 : decode cX6_needs 62 = .ok (.iload_n 1, 1) := by decide +kernel
theorem dX6_needs_63 : decode cX6_needs 63 = .ok (.imul, 1) := by decide +kernel
theorem dX6_needs_64 : decode cX6_needs 64 = .ok (.iload_n 2, 1) := by decide +kernel
theorem dX6_needs_65 : decode cX6_needs 65 = .ok (.iadd, 1) := by decide +kernel
theorem dX6_needs_66 : decode cX6_needs 66 = .ok (.iload_n 3, 1) := by decide +kernel
theorem dX6_needs_67 : decode cX6_needs 67 = .ok (.bastore, 1) := by decide +kernel
theorem dX6_needs_68 : decode cX6_needs 68 = .ok (.iconst 1, 1) := by decide +kernel
theorem dX6_needs_69 : decode cX6_needs 69 = .ok (.ireturn, 1) := by decide +kernel
set_option maxRecDepth 20000 in
theorem dX6_hangs_0 : decode cX6_hangs 0 = .ok (.aload_n 0, 1) := by decide +kernel
theorem dX6_hangs_1 : decode cX6_hangs 1 = .ok (.iconst 0, 1) := by decide +kernel
theorem dX6_hangs_2 : decode cX6_hangs 2 = .ok (.putfield 120, 3) := by decide +kernel
theorem dX6_hangs_5 : decode cX6_hangs 5 = .ok (.aload_n 0, 1) := by decide +kernel
theorem dX6_hangs_6 : decode cX6_hangs 6 = .ok (.iload_n 1, 1) := by decide +kernel
theorem dX6_hangs_7 : decode cX6_hangs 7 = .ok (.invokevirtual 133, 3) := by decide +kernel
theorem dX6_hangs_10 : decode cX6_hangs 10 = .ok (.ifCond .eq 24, 3) := by decide +kernel
theorem dX6_hangs_13 : decode cX6_hangs 13 = .ok (.aload_n 0, 1) := by decide +kernel
theorem dX6_hangs_14 : decode cX6_hangs 14 = .ok (.iload_n 2, 1) := by decide +kernel
theorem dX6_hangs_15 : decode cX6_hangs 15 = .ok (.invokevirtual 133, 3) := by decide +kernel
theorem dX6_hangs_18 : decode cX6_hangs 18 = .ok (.ifCond .eq 16, 3) := by decide +kernel
theorem dX6_hangs_21 : decode cX6_hangs 21 = .ok (.aload_n 0, 1) := by decide +kernel
theorem dX6_hangs_22 : decode cX6_hangs 22 = .ok (.iload_n 1, 1) := by decide +kernel
theorem dX6_hangs_23 : decode cX6_hangs 23 = .ok (.iload_n 2, 1) := by decide +kernel
theorem dX6_hangs_24 : decode cX6_hangs 24 = .ok (.invokevirtual 137, 3) := by decide +kernel
theorem dX6_hangs_27 : decode cX6_hangs 27 = .ok (.ifCond .eq 7, 3) := by decide +kernel
theorem dX6_hangs_30 : decode cX6_hangs 30 = .ok (.iconst 1, 1) := by decide +kernel
theorem dX6_hangs_31 : decode cX6_hangs 31 = .ok (.goto 4, 3) := by decide +kernel
theorem dX6_hangs_34 : decode cX6_hangs 34 = .ok (.iconst 0, 1) := by decide +kernel
theorem dX6_hangs_35 : decode cX6_hangs 35 = .ok (.ireturn, 1) := by decide +kernel
theorem dX6_plan_0 : decode cX6_plan 0 = .ok (.aload_n 0, 1) := by decide +kernel
theorem dX6_plan_1 : decode cX6_plan 1 = .ok (.iconst 0, 1) := by decide +kernel
theorem dX6_plan_2 : decode cX6_plan 2 = .ok (.putfield 120, 3) := by decide +kernel
theorem dX6_plan_5 : decode cX6_plan 5 = .ok (.iconst 0, 1) := by decide +kernel
theorem dX6_plan_6 : decode cX6_plan 6 = .ok (.istore_n 2, 1) := by decide +kernel
theorem dX6_plan_7 : decode cX6_plan 7 = .ok (.iload_n 2, 1) := by decide +kernel
theorem dX6_plan_8 : decode cX6_plan 8 = .ok (.bipush 12, 2) := by decide +kernel
theorem dX6_plan_10 : decode cX6_plan 10 = .ok (.if_icmp .ge 16, 3) := by decide +kernel
theorem dX6_plan_13 : decode cX6_plan 13 = .ok (.aload_n 0, 1) := by decide +kernel
theorem dX6_plan_14 : decode cX6_plan 14 = .ok (.getfield 117, 3) := by decide +kernel
theorem dX6_plan_17 : decode cX6_plan 17 = .ok (.iload_n 2, 1) := by decide +kernel
theorem dX6_plan_18 : decode cX6_plan 18 = .ok (.iconst 0, 1) := by decide +kernel
theorem dX6_plan_19 : decode cX6_plan 19 = .ok (.bastore, 1) := by decide +kernel
theorem dX6_plan_20 : decode cX6_plan 20 = .ok (.iinc 2 1, 3) := by decide +kernel
theorem dX6_plan_23 : decode cX6_plan 23 = .ok (.goto (-16), 3) := by decide +kernel
theorem dX6_plan_26 : decode cX6_plan 26 = .ok (.iconst 0, 1) := by decide +kernel
theorem dX6_plan_27 : decode cX6_plan 27 = .ok (.istore_n 2, 1) := by decide +kernel
theorem dX6_plan_28 : decode cX6_plan 28 = .ok (.iload_n 2, 1) := by decide +kernel
theorem dX6_plan_29 : decode cX6_plan 29 = .ok (.aload_n 0, 1) := by decide +kernel
theorem dX6_plan_30 : decode cX6_plan 30 = .ok (.getfield 123, 3) := by decide +kernel
theorem dX6_plan_33 : decode cX6_plan 33 = .ok (.if_icmp .ge 160, 3) := by decide +kernel
theorem dX6_plan_36 : decode cX6_plan 36 = .ok (.iconst (-1), 1) := by decide +kernel
theorem dX6_plan_37 : decode cX6_plan 37 = .ok (.istore_n 3, 1) := by decide +kernel
theorem dX6_plan_38 : decode cX6_plan 38 = .ok (.iconst 0, 1) := by decide +kernel
theorem dX6_plan_39 : decode cX6_plan 39 = .ok (.istore 4, 2) := by decide +kernel
theorem dX6_plan_41 : decode cX6_plan 41 = .ok (.iload 4, 2) := by decide +kernel
theorem dX6_plan_43 : decode cX6_plan 43 = .ok (.aload_n 0, 1) := by decide +kernel
theorem dX6_plan_44 : decode cX6_plan 44 = .ok (.getfield 123, 3) := by decide +kernel
theorem dX6_plan_47 : decode cX6_plan 47 = .ok (.if_icmp .ge 126, 3) := by decide +kernel
theorem dX6_plan_50 : decode cX6_plan 50 = .ok (.aload_n 0, 1) := by decide +kernel
theorem dX6_plan_51 : decode cX6_plan 51 = .ok (.getfield 117, 3) := by decide +kernel
theorem dX6_plan_54 : decode cX6_plan 54 = .ok (.iload 4, 2) := by decide +kernel
theorem dX6_plan_56 : decode cX6_plan 56 = .ok (.baload, 1) := by decide +kernel
theorem dX6_plan_57 : decode cX6_plan 57 = .ok (.ifCond .ne 7, 3) := by decide +kernel
theorem dX6_plan_60 : decode cX6_plan 60 = .ok (.iconst 1, 1) := by decide +kernel
theorem dX6_plan_61 : decode cX6_plan 61 = .ok (.goto 4, 3) := by decide +kernel
theorem dX6_plan_64 : decode cX6_plan 64 = .ok (.iconst 0, 1) := by decide +kernel
theorem dX6_plan_65 : decode cX6_plan 65 = .ok (.istore 5, 2) := by decide +kernel
theorem dX6_plan_67 : decode cX6_plan 67 = .ok (.iconst 0, 1) := by decide +kernel
theorem dX6_plan_68 : decode cX6_plan 68 = .ok (.istore 6, 2) := by decide +kernel
theorem dX6_plan_70 : decode cX6_plan 70 = .ok (.iload 6, 2) := by decide +kernel
theorem dX6_plan_72 : decode cX6_plan 72 = .ok (.aload_n 0, 1) := by decide +kernel
theorem dX6_plan_73 : decode cX6_plan 73 = .ok (.getfield 123, 3) := by decide +kernel
theorem dX6_plan_76 : decode cX6_plan 76 = .ok (.if_icmp .ge 47, 3) := by decide +kernel
theorem dX6_plan_79 : decode cX6_plan 79 = .ok (.iload 5, 2) := by decide +kernel
theorem dX6_plan_81 : decode cX6_plan 81 = .ok (.ifCond .eq 33, 3) := by decide +kernel
theorem dX6_plan_84 : decode cX6_plan 84 = .ok (.aload_n 0, 1) := by decide +kernel
theorem dX6_plan_85 : decode cX6_plan 85 = .ok (.getfield 57, 3) := by decide +kernel
theorem dX6_plan_88 : decode cX6_plan 88 = .ok (.bipush 12, 2) := by decide +kernel
theorem dX6_plan_90 : decode cX6_plan 90 = .ok (.iload 4, 2) := by decide +kernel
theorem dX6_plan_92 : decode cX6_plan 92 = .ok (.imul, 1) := by decide +kernel
theorem dX6_plan_93 : decode cX6_plan 93 = .ok (.iload 6, 2) := by decide +kernel
theorem dX6_plan_95 : decode cX6_plan 95 = .ok (.iadd, 1) := by decide +kernel
theorem dX6_plan_96 : decode cX6_plan 96 = .ok (.baload, 1) := by decide +kernel
theorem dX6_plan_97 : decode cX6_plan 97 = .ok (.ifCond .eq 13, 3) := by decide +kernel
theorem dX6_plan_100 : decode cX6_plan 100 = .ok (.aload_n 0, 1) := by decide +kernel
theorem dX6_plan_101 : decode cX6_plan 101 = .ok (.getfield 117, 3) := by decide +kernel
theorem dX6_plan_104 : decode cX6_plan 104 = .ok (.iload 6, 2) := by decide +kernel
theorem dX6_plan_106 : decode cX6_plan 106 = .ok (.baload, 1) := by decide +kernel
theorem dX6_plan_107 : decode cX6_plan 107 = .ok (.ifCond .eq 7, 3) := by decide +kernel
theorem dX6_plan_110 : decode cX6_plan 110 = .ok (.iconst 1, 1) := by decide +kernel
theorem dX6_plan_111 : decode cX6_plan 111 = .ok (.goto 4, 3) := by decide +kernel
theorem dX6_plan_114 : decode cX6_plan 114 = .ok (.iconst 0, 1) := by decide +kernel
theorem dX6_plan_115 : decode cX6_plan 115 = .ok (.istore 5, 2) := by decide +kernel
theorem dX6_plan_117 : decode cX6_plan 117 = .ok (.iinc 6 1, 3) := by decide +kernel
theorem dX6_plan_120 : decode cX6_plan 120 = .ok (.goto (-50), 3) := by decide +kernel
theorem dX6_plan_123 : decode cX6_plan 123 = .ok (.iload 5, 2) := by decide +kernel
theorem dX6_plan_125 : decode cX6_plan 125 = .ok (.ifCond .eq 42, 3) := by decide +kernel
theorem dX6_plan_128 : decode cX6_plan 128 = .ok (.iload_n 3, 1) := by decide +kernel
theorem dX6_plan_129 : decode cX6_plan 129 = .ok (.iconst (-1), 1) := by decide +kernel
theorem dX6_plan_130 : decode cX6_plan 130 = .ok (.if_icmp .eq 34, 3) := by decide +kernel
theorem dX6_plan_133 : decode cX6_plan 133 = .ok (.aload_n 0, 1) := by decide +kernel
theorem dX6_plan_134 : decode cX6_plan 134 = .ok (.getfield 32, 3) := by decide +kernel
theorem dX6_plan_137 : decode cX6_plan 137 = .ok (.iload 4, 2) := by decide +kernel
theorem dX6_plan_139 : decode cX6_plan 139 = .ok (.iaload, 1) := by decide +kernel
theorem dX6_plan_140 : decode cX6_plan 140 = .ok (.aload_n 0, 1) := by decide +kernel
theorem dX6_plan_141 : decode cX6_plan 141 = .ok (.getfield 26, 3) := by decide +kernel
theorem dX6_plan_144 : decode cX6_plan 144 = .ok (.iload 4, 2) := by decide +kernel
theorem dX6_plan_146 : decode cX6_plan 146 = .ok (.iaload, 1) := by decide +kernel
theorem dX6_plan_147 : decode cX6_plan 147 = .ok (.iadd, 1) := by decide +kernel
theorem dX6_plan_148 : decode cX6_plan 148 = .ok (.aload_n 0, 1) := by decide +kernel
theorem dX6_plan_149 : decode cX6_plan 149 = .ok (.getfield 32, 3) := by decide +kernel
theorem dX6_plan_152 : decode cX6_plan 152 = .ok (.iload_n 3, 1) := by decide +kernel
theorem dX6_plan_153 : decode cX6_plan 153 = .ok (.iaload, 1) := by decide +kernel
theorem dX6_plan_154 : decode cX6_plan 154 = .ok (.aload_n 0, 1) := by decide +kernel
theorem dX6_plan_155 : decode cX6_plan 155 = .ok (.getfield 26, 3) := by decide +kernel
theorem dX6_plan_158 : decode cX6_plan 158 = .ok (.iload_n 3, 1) := by decide +kernel
theorem dX6_plan_159 : decode cX6_plan 159 = .ok (.iaload, 1) := by decide +kernel
theorem dX6_plan_160 : decode cX6_plan 160 = .ok (.iadd, 1) := by decide +kernel
theorem dX6_plan_161 : decode cX6_plan 161 = .ok (.if_icmp .ge 6, 3) := by decide +kernel
theorem dX6_plan_164 : decode cX6_plan 164 = .ok (.iload 4, 2) := by decide +kernel
theorem dX6_plan_166 : decode cX6_plan 166 = .ok (.istore_n 3, 1) := by decide +kernel
theorem dX6_plan_167 : decode cX6_plan 167 = .ok (.iinc 4 1, 3) := by decide +kernel
theorem dX6_plan_170 : decode cX6_plan 170 = .ok (.goto (-129), 3) := by decide +kernel
theorem dX6_plan_173 : decode cX6_plan 173 = .ok (.iload_n 2, 1) := by decide +kernel
theorem dX6_plan_174 : decode cX6_plan 174 = .ok (.iload_n 1, 1) := by decide +kernel
theorem dX6_plan_175 : decode cX6_plan 175 = .ok (.if_icmp .ne 5, 3) := by decide +kernel
theorem dX6_plan_178 : decode cX6_plan 178 = .ok (.iload_n 3, 1) := by decide +kernel
theorem dX6_plan_179 : decode cX6_plan 179 = .ok (.ireturn, 1) := by decide +kernel
theorem dX6_plan_180 : decode cX6_plan 180 = .ok (.aload_n 0, 1) := by decide +kernel
theorem dX6_plan_181 : decode cX6_plan 181 = .ok (.getfield 117, 3) := by decide +kernel
theorem dX6_plan_184 : decode cX6_plan 184 = .ok (.iload_n 3, 1) := by decide +kernel
theorem dX6_plan_185 : decode cX6_plan 185 = .ok (.iconst 1, 1) := by decide +kernel
theorem dX6_plan_186 : decode cX6_plan 186 = .ok (.bastore, 1) := by decide +kernel
theorem dX6_plan_187 : decode cX6_plan 187 = .ok (.iinc 2 1, 3) := by decide +kernel
theorem dX6_plan_190 : decode cX6_plan 190 = .ok (.goto (-162), 3) := by decide +kernel
theorem dX6_plan_193 : decode cX6_plan 193 = .ok (.iconst (-1), 1) := by decide +kernel
theorem dX6_plan_194 : decode cX6_plan 194 = .ok (.ireturn, 1) := by decide +kernel
set_option maxRecDepth 20000 in
theorem dX6_delay_0 : decode cX6_delay 0 = .ok (.aload_n 0, 1) := by decide +kernel
theorem dX6_delay_1 : decode cX6_delay 1 = .ok (.iconst 0, 1) := by decide +kernel
theorem dX6_delay_2 : decode cX6_delay 2 = .ok (.putfield 120, 3) := by decide +kernel
theorem dX6_delay_5 : decode cX6_delay 5 = .ok (.iload_n 1, 1) := by decide +kernel
theorem dX6_delay_6 : decode cX6_delay 6 = .ok (.iconst 0, 1) := by decide +kernel
theorem dX6_delay_7 : decode cX6_delay 7 = .ok (.bipush 15, 2) := by decide +kernel
theorem dX6_delay_9 : decode cX6_delay 9 = .ok (.invokestatic 126, 3) := by decide +kernel
theorem dX6_delay_12 : decode cX6_delay 12 = .ok (.ifCond .eq 13, 3) := by decide +kernel
theorem dX6_delay_15 : decode cX6_delay 15 = .ok (.iload_n 2, 1) := by decide +kernel
theorem dX6_delay_16 : decode cX6_delay 16 = .ok (.iconst 0, 1) := by decide +kernel
theorem dX6_delay_17 : decode cX6_delay 17 = .ok (.bipush 20, 2) := by decide +kernel
theorem dX6_delay_19 : decode cX6_delay 19 = .ok (.invokestatic 126, 3) := by decide +kernel
theorem dX6_delay_22 : decode cX6_delay 22 = .ok (.ifCond .ne 5, 3) := by decide +kernel
theorem dX6_delay_25 : decode cX6_delay 25 = .ok (.iconst 0, 1) := by decide +kernel
theorem dX6_delay_26 : decode cX6_delay 26 = .ok (.ireturn, 1) := by decide +kernel
theorem dX6_delay_27 : decode cX6_delay 27 = .ok (.aload_n 0, 1) := by decide +kernel
theorem dX6_delay_28 : decode cX6_delay 28 = .ok (.getfield 72, 3) := by decide +kernel
theorem dX6_delay_31 : decode cX6_delay 31 = .ok (.iload_n 1, 1) := by decide +kernel
theorem dX6_delay_32 : decode cX6_delay 32 = .ok (.iload_n 2, 1) := by decide +kernel
theorem dX6_delay_33 : decode cX6_delay 33 = .ok (.iastore, 1) := by decide +kernel
theorem dX6_delay_34 : decode cX6_delay 34 = .ok (.iconst 1, 1) := by decide +kernel
theorem dX6_delay_35 : decode cX6_delay 35 = .ok (.ireturn, 1) := by decide +kernel
set_option maxRecDepth 20000 in
theorem dX6_quiet_0 : decode cX6_quiet 0 = .ok (.aload_n 0, 1) := by decide +kernel
theorem dX6_quiet_1 : decode cX6_quiet 1 = .ok (.iconst 0, 1) := by decide +kernel
theorem dX6_quiet_2 : decode cX6_quiet 2 = .ok (.putfield 120, 3) := by decide +kernel
theorem dX6_quiet_5 : decode cX6_quiet 5 = .ok (.iload_n 1, 1) := by decide +kernel
theorem dX6_quiet_6 : decode cX6_quiet 6 = .ok (.iconst 0, 1) := by decide +kernel
theorem dX6_quiet_7 : decode cX6_quiet 7 = .ok (.sipush 1000, 3) := by decide +kernel
theorem dX6_quiet_10 : decode cX6_quiet 10 = .ok (.invokestatic 126, 3) := by decide +kernel
theorem dX6_quiet_13 : decode cX6_quiet 13 = .ok (.ifCond .eq 14, 3) := by decide +kernel
theorem dX6_quiet_16 : decode cX6_quiet 16 = .ok (.iload_n 2, 1) := by decide +kernel
theorem dX6_quiet_17 : decode cX6_quiet 17 = .ok (.iconst 0, 1) := by decide +kernel
theorem dX6_quiet_18 : decode cX6_quiet 18 = .ok (.sipush 10000, 3) := by decide +kernel
theorem dX6_quiet_21 : decode cX6_quiet 21 = .ok (.invokestatic 126, 3) := by decide +kernel
theorem dX6_quiet_24 : decode cX6_quiet 24 = .ok (.ifCond .ne 5, 3) := by decide +kernel
theorem dX6_quiet_27 : decode cX6_quiet 27 = .ok (.iconst 0, 1) := by decide +kernel
theorem dX6_quiet_28 : decode cX6_quiet 28 = .ok (.ireturn, 1) := by decide +kernel
theorem dX6_quiet_29 : decode cX6_quiet 29 = .ok (.aload_n 0, 1) := by decide +kernel
theorem dX6_quiet_30 : decode cX6_quiet 30 = .ok (.iload_n 1, 1) := by decide +kernel
theorem dX6_quiet_31 : decode cX6_quiet 31 = .ok (.putfield 7, 3) := by decide +kernel
theorem dX6_quiet_34 : decode cX6_quiet 34 = .ok (.aload_n 0, 1) := by decide +kernel
theorem dX6_quiet_35 : decode cX6_quiet 35 = .ok (.iload_n 2, 1) := by decide +kernel
theorem dX6_quiet_36 : decode cX6_quiet 36 = .ok (.putfield 13, 3) := by decide +kernel
theorem dX6_quiet_39 : decode cX6_quiet 39 = .ok (.iconst 1, 1) := by decide +kernel
theorem dX6_quiet_40 : decode cX6_quiet 40 = .ok (.ireturn, 1) := by decide +kernel
set_option maxRecDepth 20000 in
theorem dX6_down_0 : decode cX6_down 0 = .ok (.aload_n 0, 1) := by decide +kernel
theorem dX6_down_1 : decode cX6_down 1 = .ok (.iconst 0, 1) := by decide +kernel
theorem dX6_down_2 : decode cX6_down 2 = .ok (.putfield 120, 3) := by decide +kernel
theorem dX6_down_5 : decode cX6_down 5 = .ok (.iload_n 1, 1) := by decide +kernel
theorem dX6_down_6 : decode cX6_down 6 = .ok (.iconst 0, 1) := by decide +kernel
theorem dX6_down_7 : decode cX6_down 7 = .ok (.bipush 16, 2) := by decide +kernel
theorem dX6_down_9 : decode cX6_down 9 = .ok (.invokestatic 126, 3) := by decide +kernel
theorem dX6_down_12 : decode cX6_down 12 = .ok (.ifCond .eq 13, 3) := by decide +kernel
theorem dX6_down_15 : decode cX6_down 15 = .ok (.aload_n 0, 1) := by decide +kernel
theorem dX6_down_16 : decode cX6_down 16 = .ok (.getfield 60, 3) := by decide +kernel
theorem dX6_down_19 : decode cX6_down 19 = .ok (.iload_n 1, 1) := by decide +kernel
theorem dX6_down_20 : decode cX6_down 20 = .ok (.baload, 1) := by decide +kernel
theorem dX6_down_21 : decode cX6_down 21 = .ok (.iload_n 2, 1) := by decide +kernel
theorem dX6_down_22 : decode cX6_down 22 = .ok (.if_icmp .ne 5, 3) := by decide +kernel
theorem dX6_down_25 : decode cX6_down 25 = .ok (.iconst 0, 1) := by decide +kernel
theorem dX6_down_26 : decode cX6_down 26 = .ok (.ireturn, 1) := by decide +kernel
theorem dX6_down_27 : decode cX6_down 27 = .ok (.aload_n 0, 1) := by decide +kernel
theorem dX6_down_28 : decode cX6_down 28 = .ok (.getfield 60, 3) := by decide +kernel
theorem dX6_down_31 : decode cX6_down 31 = .ok (.iload_n 1, 1) := by decide +kernel
theorem dX6_down_32 : decode cX6_down 32 = .ok (.iload_n 2, 1) := by decide +kernel
theorem dX6_down_33 : decode cX6_down 33 = .ok (.bastore, 1) := by decide +kernel
theorem dX6_down_34 : decode cX6_down 34 = .ok (.iconst 1, 1) := by decide +kernel
theorem dX6_down_35 : decode cX6_down 35 = .ok (.ireturn, 1) := by decide +kernel
theorem dX6_write_0 : decode cX6_write 0 = .ok (.aload_n 0, 1) := by decide +kernel
theorem dX6_write_1 : decode cX6_write 1 = .ok (.getfield 81, 3) := by decide +kernel
theorem dX6_write_4 : decode cX6_write 4 = .ok (.aload_n 0, 1) := by decide +kernel
theorem dX6_write_5 : decode cX6_write 5 = .ok (.getfield 141, 3) := by decide +kernel
theorem dX6_write_8 : decode cX6_write 8 = .ok (.iload_n 1, 1) := by decide +kernel
theorem dX6_write_9 : decode cX6_write 9 = .ok (.iastore, 1) := by decide +kernel
theorem dX6_write_10 : decode cX6_write 10 = .ok (.aload_n 0, 1) := by decide +kernel
theorem dX6_write_11 : decode cX6_write 11 = .ok (.getfield 84, 3) := by decide +kernel
theorem dX6_write_14 : decode cX6_write 14 = .ok (.aload_n 0, 1) := by decide +kernel
theorem dX6_write_15 : decode cX6_write 15 = .ok (.getfield 141, 3) := by decide +kernel
theorem dX6_write_18 : decode cX6_write 18 = .ok (.iload_n 2, 1) := by decide +kernel
theorem dX6_write_19 : decode cX6_write 19 = .ok (.iastore, 1) := by decide +kernel
theorem dX6_write_20 : decode cX6_write 20 = .ok (.aload_n 0, 1) := by decide +kernel
theorem dX6_write_21 : decode cX6_write 21 = .ok (.getfield 96, 3) := by decide +kernel
theorem dX6_write_24 : decode cX6_write 24 = .ok (.aload_n 0, 1) := by decide +kernel
theorem dX6_write_25 : decode cX6_write 25 = .ok (.getfield 141, 3) := by decide +kernel
theorem dX6_write_28 : decode cX6_write 28 = .ok (.iload_n 3, 1) := by decide +kernel
theorem dX6_write_29 : decode cX6_write 29 = .ok (.bastore, 1) := by decide +kernel
theorem dX6_write_30 : decode cX6_write 30 = .ok (.aload_n 0, 1) := by decide +kernel
theorem dX6_write_31 : decode cX6_write 31 = .ok (.getfield 87, 3) := by decide +kernel
theorem dX6_write_34 : decode cX6_write 34 = .ok (.aload_n 0, 1) := by decide +kernel
theorem dX6_write_35 : decode cX6_write 35 = .ok (.getfield 141, 3) := by decide +kernel
theorem dX6_write_38 : decode cX6_write 38 = .ok (.aload_n 0, 1) := by decide +kernel
theorem dX6_write_39 : decode cX6_write 39 = .ok (.getfield 130, 3) := by decide +kernel
theorem dX6_write_42 : decode cX6_write 42 = .ok (.iconst 1, 1) := by decide +kernel
theorem dX6_write_43 : decode cX6_write 43 = .ok (.aload_n 0, 1) := by decide +kernel
theorem dX6_write_44 : decode cX6_write 44 = .ok (.getfield 72, 3) := by decide +kernel
theorem dX6_write_47 : decode cX6_write 47 = .ok (.iload_n 1, 1) := by decide +kernel
theorem dX6_write_48 : decode cX6_write 48 = .ok (.iaload, 1) := by decide +kernel
theorem dX6_write_49 : decode cX6_write 49 = .ok (.invokestatic 144, 3) := by decide +kernel
theorem dX6_write_52 : decode cX6_write 52 = .ok (.iadd, 1) := by decide +kernel
theorem dX6_write_53 : decode cX6_write 53 = .ok (.iastore, 1) := by decide +kernel
theorem dX6_write_54 : decode cX6_write 54 = .ok (.aload_n 0, 1) := by decide +kernel
theorem dX6_write_55 : decode cX6_write 55 = .ok (.getfield 90, 3) := by decide +kernel
theorem dX6_write_58 : decode cX6_write 58 = .ok (.aload_n 0, 1) := by decide +kernel
theorem dX6_write_59 : decode cX6_write 59 = .ok (.getfield 141, 3) := by decide +kernel
theorem dX6_write_62 : decode cX6_write 62 = .ok (.aload_n 0, 1) := by decide +kernel
theorem dX6_write_63 : decode cX6_write 63 = .ok (.getfield 29, 3) := by decide +kernel
theorem dX6_write_66 : decode cX6_write 66 = .ok (.iload_n 2, 1) := by decide +kernel
theorem dX6_write_67 : decode cX6_write 67 = .ok (.iaload, 1) := by decide +kernel
theorem dX6_write_68 : decode cX6_write 68 = .ok (.iastore, 1) := by decide +kernel
theorem dX6_write_69 : decode cX6_write 69 = .ok (.aload_n 0, 1) := by decide +kernel
theorem dX6_write_70 : decode cX6_write 70 = .ok (.getfield 93, 3) := by decide +kernel
theorem dX6_write_73 : decode cX6_write 73 = .ok (.aload_n 0, 1) := by decide +kernel
theorem dX6_write_74 : decode cX6_write 74 = .ok (.getfield 141, 3) := by decide +kernel
theorem dX6_write_77 : decode cX6_write 77 = .ok (.aload_n 0, 1) := by decide +kernel
theorem dX6_write_78 : decode cX6_write 78 = .ok (.getfield 32, 3) := by decide +kernel
theorem dX6_write_81 : decode cX6_write 81 = .ok (.iload_n 2, 1) := by decide +kernel
theorem dX6_write_82 : decode cX6_write 82 = .ok (.iaload, 1) := by decide +kernel
theorem dX6_write_83 : decode cX6_write 83 = .ok (.iastore, 1) := by decide +kernel
theorem dX6_write_84 : decode cX6_write 84 = .ok (.aload_n 0, 1) := by decide +kernel
theorem dX6_write_85 : decode cX6_write 85 = .ok (.dup, 1) := by decide +kernel
theorem dX6_write_86 : decode cX6_write 86 = .ok (.getfield 141, 3) := by decide +kernel
theorem dX6_write_89 : decode cX6_write 89 = .ok (.iconst 1, 1) := by decide +kernel
theorem dX6_write_90 : decode cX6_write 90 = .ok (.iadd, 1) := by decide +kernel
theorem dX6_write_91 : decode cX6_write 91 = .ok (.putfield 141, 3) := by decide +kernel
theorem dX6_write_94 : decode cX6_write 94 = .ok (.aload_n 0, 1) := by decide +kernel
theorem dX6_write_95 : decode cX6_write 95 = .ok (.getfield 47, 3) := by decide +kernel
theorem dX6_write_98 : decode cX6_write 98 = .ok (.iload_n 2, 1) := by decide +kernel
theorem dX6_write_99 : decode cX6_write 99 = .ok (.dup2, 1) := by decide +kernel
theorem dX6_write_100 : decode cX6_write 100 = .ok (.iaload, 1) := by decide +kernel
theorem dX6_write_101 : decode cX6_write 101 = .ok (.iconst 1, 1) := by decide +kernel
theorem dX6_write_102 : decode cX6_write 102 = .ok (.iadd, 1) := by decide +kernel
theorem dX6_write_103 : decode cX6_write 103 = .ok (.iastore, 1) := by decide +kernel
theorem dX6_write_104 : decode cX6_write 104 = .ok (.return_, 1) := by decide +kernel
set_option maxRecDepth 20000 in
theorem dX6_begins_0 : decode cX6_begins 0 = .ok (.aload_n 0, 1) := by decide +kernel
theorem dX6_begins_1 : decode cX6_begins 1 = .ok (.getfield 35, 3) := by decide +kernel
theorem dX6_begins_4 : decode cX6_begins 4 = .ok (.iload_n 1, 1) := by decide +kernel
theorem dX6_begins_5 : decode cX6_begins 5 = .ok (.iload_n 2, 1) := by decide +kernel
theorem dX6_begins_6 : decode cX6_begins 6 = .ok (.iastore, 1) := by decide +kernel
theorem dX6_begins_7 : decode cX6_begins 7 = .ok (.aload_n 0, 1) := by decide +kernel
theorem dX6_begins_8 : decode cX6_begins 8 = .ok (.getfield 38, 3) := by decide +kernel
theorem dX6_begins_11 : decode cX6_begins 11 = .ok (.iload_n 1, 1) := by decide +kernel
theorem dX6_begins_12 : decode cX6_begins 12 = .ok (.aload_n 0, 1) := by decide +kernel
theorem dX6_begins_13 : decode cX6_begins 13 = .ok (.getfield 130, 3) := by decide +kernel
theorem dX6_begins_16 : decode cX6_begins 16 = .ok (.iastore, 1) := by decide +kernel
theorem dX6_begins_17 : decode cX6_begins 17 = .ok (.aload_n 0, 1) := by decide +kernel
theorem dX6_begins_18 : decode cX6_begins 18 = .ok (.getfield 41, 3) := by decide +kernel
theorem dX6_begins_21 : decode cX6_begins 21 = .ok (.iload_n 1, 1) := by decide +kernel
theorem dX6_begins_22 : decode cX6_begins 22 = .ok (.iconst 0, 1) := by decide +kernel
theorem dX6_begins_23 : decode cX6_begins 23 = .ok (.iastore, 1) := by decide +kernel
theorem dX6_begins_24 : decode cX6_begins 24 = .ok (.aload_n 0, 1) := by decide +kernel
theorem dX6_begins_25 : decode cX6_begins 25 = .ok (.getfield 44, 3) := by decide +kernel
theorem dX6_begins_28 : decode cX6_begins 28 = .ok (.iload_n 1, 1) := by decide +kernel
theorem dX6_begins_29 : decode cX6_begins 29 = .ok (.iconst (-1), 1) := by decide +kernel
theorem dX6_begins_30 : decode cX6_begins 30 = .ok (.iastore, 1) := by decide +kernel
theorem dX6_begins_31 : decode cX6_begins 31 = .ok (.iload_n 2, 1) := by decide +kernel
theorem dX6_begins_32 : decode cX6_begins 32 = .ok (.iconst 1, 1) := by decide +kernel
theorem dX6_begins_33 : decode cX6_begins 33 = .ok (.if_icmp .eq 13, 3) := by decide +kernel
theorem dX6_begins_36 : decode cX6_begins 36 = .ok (.iload_n 2, 1) := by decide +kernel
theorem dX6_begins_37 : decode cX6_begins 37 = .ok (.iconst 4, 1) := by decide +kernel
theorem dX6_begins_38 : decode cX6_begins 38 = .ok (.if_icmp .eq 8, 3) := by decide +kernel
theorem dX6_begins_41 : decode cX6_begins 41 = .ok (.iload_n 2, 1) := by decide +kernel
theorem dX6_begins_42 : decode cX6_begins 42 = .ok (.iconst 5, 1) := by decide +kernel
theorem dX6_begins_43 : decode cX6_begins 43 = .ok (.if_icmp .ne 49, 3) := by decide +kernel
theorem dX6_begins_46 : decode cX6_begins 46 = .ok (.iconst 0, 1) := by decide +kernel
theorem dX6_begins_47 : decode cX6_begins 47 = .ok (.istore_n 3, 1) := by decide +kernel
theorem dX6_begins_48 : decode cX6_begins 48 = .ok (.iload_n 3, 1) := by decide +kernel
theorem dX6_begins_49 : decode cX6_begins 49 = .ok (.bipush 6, 2) := by decide +kernel
theorem dX6_begins_51 : decode cX6_begins 51 = .ok (.if_icmp .ge 41, 3) := by decide +kernel
theorem dX6_begins_54 : decode cX6_begins 54 = .ok (.aload_n 0, 1) := by decide +kernel
theorem dX6_begins_55 : decode cX6_begins 55 = .ok (.getfield 23, 3) := by decide +kernel
theorem dX6_begins_58 : decode cX6_begins 58 = .ok (.iload_n 1, 1) := by decide +kernel
theorem dX6_begins_59 : decode cX6_begins 59 = .ok (.iaload, 1) := by decide +kernel
theorem dX6_begins_60 : decode cX6_begins 60 = .ok (.iload_n 3, 1) := by decide +kernel
theorem dX6_begins_61 : decode cX6_begins 61 = .ok (.invokestatic 150, 3) := by decide +kernel
theorem dX6_begins_64 : decode cX6_begins 64 = .ok (.ifCond .eq 22, 3) := by decide +kernel
theorem dX6_begins_67 : decode cX6_begins 67 = .ok (.aload_n 0, 1) := by decide +kernel
theorem dX6_begins_68 : decode cX6_begins 68 = .ok (.bipush 10, 2) := by decide +kernel
theorem dX6_begins_70 : decode cX6_begins 70 = .ok (.iload_n 3, 1) := by decide +kernel
theorem dX6_begins_71 : decode cX6_begins 71 = .ok (.iadd, 1) := by decide +kernel
theorem dX6_begins_72 : decode cX6_begins 72 = .ok (.iload_n 1, 1) := by decide +kernel
theorem dX6_begins_73 : decode cX6_begins 73 = .ok (.iload_n 2, 1) := by decide +kernel
theorem dX6_begins_74 : decode cX6_begins 74 = .ok (.iconst 1, 1) := by decide +kernel
theorem dX6_begins_75 : decode cX6_begins 75 = .ok (.if_icmp .eq 7, 3) := by decide +kernel
theorem dX6_begins_78 : decode cX6_begins 78 = .ok (.iconst 1, 1) := by decide +kernel
theorem dX6_begins_79 : decode cX6_begins 79 = .ok (.goto 4, 3) := by decide +kernel
theorem dX6_begins_82 : decode cX6_begins 82 = .ok (.iconst 0, 1) := by decide +kernel
theorem dX6_begins_83 : decode cX6_begins 83 = .ok (.invokevirtual 153, 3) := by decide +kernel
theorem dX6_begins_86 : decode cX6_begins 86 = .ok (.iinc 3 1, 3) := by decide +kernel
theorem dX6_begins_89 : decode cX6_begins 89 = .ok (.goto (-41), 3) := by decide +kernel
theorem dX6_begins_92 : decode cX6_begins 92 = .ok (.iload_n 2, 1) := by decide +kernel
theorem dX6_begins_93 : decode cX6_begins 93 = .ok (.iconst 2, 1) := by decide +kernel
theorem dX6_begins_94 : decode cX6_begins 94 = .ok (.if_icmp .ne 37, 3) := by decide +kernel
theorem dX6_begins_97 : decode cX6_begins 97 = .ok (.iconst 0, 1) := by decide +kernel
theorem dX6_begins_98 : decode cX6_begins 98 = .ok (.istore_n 3, 1) := by decide +kernel
theorem dX6_begins_99 : decode cX6_begins 99 = .ok (.iload_n 3, 1) := by decide +kernel
theorem dX6_begins_100 : decode cX6_begins 100 = .ok (.bipush 10, 2) := by decide +kernel
theorem dX6_begins_102 : decode cX6_begins 102 = .ok (.if_icmp .ge 29, 3) := by decide +kernel
theorem dX6_begins_105 : decode cX6_begins 105 = .ok (.aload_n 0, 1) := by decide +kernel
theorem dX6_begins_106 : decode cX6_begins 106 = .ok (.getfield 20, 3) := by decide +kernel
theorem dX6_begins_109 : decode cX6_begins 109 = .ok (.iload_n 1, 1) := by decide +kernel
theorem dX6_begins_110 : decode cX6_begins 110 = .ok (.iaload, 1) := by decide +kernel
theorem dX6_begins_111 : decode cX6_begins 111 = .ok (.iload_n 3, 1) := by decide +kernel
theorem dX6_begins_112 : decode cX6_begins 112 = .ok (.invokestatic 150, 3) := by decide +kernel
theorem dX6_begins_115 : decode cX6_begins 115 = .ok (.ifCond .eq 10, 3) := by decide +kernel
theorem dX6_begins_118 : decode cX6_begins 118 = .ok (.aload_n 0, 1) := by decide +kernel
theorem dX6_begins_119 : decode cX6_begins 119 = .ok (.iload_n 3, 1) := by decide +kernel
theorem dX6_begins_120 : decode cX6_begins 120 = .ok (.iload_n 1, 1) := by decide +kernel
theorem dX6_begins_121 : decode cX6_begins 121 = .ok (.iconst 0, 1) := by decide +kernel
theorem dX6_begins_122 : decode cX6_begins 122 = .ok (.invokevirtual 153, 3) := by decide +kernel
theorem dX6_begins_125 : decode cX6_begins 125 = .ok (.iinc 3 1, 3) := by decide +kernel
theorem dX6_begins_128 : decode cX6_begins 128 = .ok (.goto (-29), 3) := by decide +kernel
theorem dX6_begins_131 : decode cX6_begins 131 = .ok (.return_, 1) := by decide +kernel
theorem dX6_act_0 : decode cX6_act 0 = .ok (.aload_n 0, 1) := by decide +kernel
theorem dX6_act_1 : decode cX6_act 1 = .ok (.getfield 84, 3) := by decide +kernel
theorem dX6_act_4 : decode cX6_act 4 = .ok (.iload_n 1, 1) := by decide +kernel
theorem dX6_act_5 : decode cX6_act 5 = .ok (.iaload, 1) := by decide +kernel
theorem dX6_act_6 : decode cX6_act 6 = .ok (.istore_n 2, 1) := by decide +kernel
theorem dX6_act_7 : decode cX6_act 7 = .ok (.aload_n 0, 1) := by decide +kernel
theorem dX6_act_8 : decode cX6_act 8 = .ok (.getfield 47, 3) := by decide +kernel
theorem dX6_act_11 : decode cX6_act 11 = .ok (.iload_n 2, 1) := by decide +kernel
theorem dX6_act_12 : decode cX6_act 12 = .ok (.dup2, 1) := by decide +kernel
theorem dX6_act_13 : decode cX6_act 13 = .ok (.iaload, 1) := by decide +kernel
theorem dX6_act_14 : decode cX6_act 14 = .ok (.iconst 1, 1) := by decide +kernel
theorem dX6_act_15 : decode cX6_act 15 = .ok (.isub, 1) := by decide +kernel
theorem dX6_act_16 : decode cX6_act 16 = .ok (.iastore, 1) := by decide +kernel
theorem dX6_act_17 : decode cX6_act 17 = .ok (.aload_n 0, 1) := by decide +kernel
theorem dX6_act_18 : decode cX6_act 18 = .ok (.getfield 81, 3) := by decide +kernel
theorem dX6_act_21 : decode cX6_act 21 = .ok (.iload_n 1, 1) := by decide +kernel
theorem dX6_act_22 : decode cX6_act 22 = .ok (.iaload, 1) := by decide +kernel
theorem dX6_act_23 : decode cX6_act 23 = .ok (.bipush 10, 2) := by decide +kernel
theorem dX6_act_25 : decode cX6_act 25 = .ok (.if_icmp .ge 26, 3) := by decide +kernel
theorem dX6_act_28 : decode cX6_act 28 = .ok (.aload_n 0, 1) := by decide +kernel
theorem dX6_act_29 : decode cX6_act 29 = .ok (.getfield 63, 3) := by decide +kernel
theorem dX6_act_32 : decode cX6_act 32 = .ok (.bipush 10, 2) := by decide +kernel
theorem dX6_act_34 : decode cX6_act 34 = .ok (.iload_n 2, 1) := by decide +kernel
theorem dX6_act_35 : decode cX6_act 35 = .ok (.imul, 1) := by decide +kernel
theorem dX6_act_36 : decode cX6_act 36 = .ok (.aload_n 0, 1) := by decide +kernel
theorem dX6_act_37 : decode cX6_act 37 = .ok (.getfield 81, 3) := by decide +kernel
theorem dX6_act_40 : decode cX6_act 40 = .ok (.iload_n 1, 1) := by decide +kernel
theorem dX6_act_41 : decode cX6_act 41 = .ok (.iaload, 1) := by decide +kernel
theorem dX6_act_42 : decode cX6_act 42 = .ok (.iadd, 1) := by decide +kernel
theorem dX6_act_43 : decode cX6_act 43 = .ok (.aload_n 0, 1) := by decide +kernel
theorem dX6_act_44 : decode cX6_act 44 = .ok (.getfield 90, 3) := by decide +kernel
theorem dX6_act_47 : decode cX6_act 47 = .ok (.iload_n 1, 1) := by decide +kernel
theorem dX6_act_48 : decode cX6_act 48 = .ok (.iaload, 1) := by decide +kernel
theorem dX6_act_49 : decode cX6_act 49 = .ok (.iastore, 1) := by decide +kernel
theorem dX6_act_50 : decode cX6_act 50 = .ok (.return_, 1) := by decide +kernel
theorem dX6_act_51 : decode cX6_act 51 = .ok (.bipush 6, 2) := by decide +kernel
theorem dX6_act_53 : decode cX6_act 53 = .ok (.iload_n 2, 1) := by decide +kernel
theorem dX6_act_54 : decode cX6_act 54 = .ok (.imul, 1) := by decide +kernel
theorem dX6_act_55 : decode cX6_act 55 = .ok (.aload_n 0, 1) := by decide +kernel
theorem dX6_act_56 : decode cX6_act 56 = .ok (.getfield 81, 3) := by decide +kernel
theorem dX6_act_59 : decode cX6_act 59 = .ok (.iload_n 1, 1) := by decide +kernel
theorem dX6_act_60 : decode cX6_act 60 = .ok (.iaload, 1) := by decide +kernel
theorem dX6_act_61 : decode cX6_act 61 = .ok (.iadd, 1) := by decide +kernel
theorem dX6_act_62 : decode cX6_act 62 = .ok (.bipush 10, 2) := by decide +kernel
theorem dX6_act_64 : decode cX6_act 64 = .ok (.isub, 1) := by decide +kernel
theorem dX6_act_65 : decode cX6_act 65 = .ok (.istore_n 3, 1) := by decide +kernel
theorem dX6_act_66 : decode cX6_act 66 = .ok (.aload_n 0, 1) := by decide +kernel
theorem dX6_act_67 : decode cX6_act 67 = .ok (.getfield 96, 3) := by decide +kernel
theorem dX6_act_70 : decode cX6_act 70 = .ok (.iload_n 1, 1) := by decide +kernel
theorem dX6_act_71 : decode cX6_act 71 = .ok (.baload, 1) := by decide +kernel
theorem dX6_act_72 : decode cX6_act 72 = .ok (.ifCond .eq 37, 3) := by decide +kernel
theorem dX6_act_75 : decode cX6_act 75 = .ok (.aload_n 0, 1) := by decide +kernel
theorem dX6_act_76 : decode cX6_act 76 = .ok (.getfield 66, 3) := by decide +kernel
theorem dX6_act_79 : decode cX6_act 79 = .ok (.iload_n 3, 1) := by decide +kernel
theorem dX6_act_80 : decode cX6_act 80 = .ok (.aload_n 0, 1) := by decide +kernel
theorem dX6_act_81 : decode cX6_act 81 = .ok (.getfield 90, 3) := by decide +kernel
theorem dX6_act_84 : decode cX6_act 84 = .ok (.iload_n 1, 1) := by decide +kernel
theorem dX6_act_85 : decode cX6_act 85 = .ok (.iaload, 1) := by decide +kernel
theorem dX6_act_86 : decode cX6_act 86 = .ok (.iastore, 1) := by decide +kernel
theorem dX6_act_87 : decode cX6_act 87 = .ok (.aload_n 0, 1) := by decide +kernel
theorem dX6_act_88 : decode cX6_act 88 = .ok (.getfield 75, 3) := by decide +kernel
theorem dX6_act_91 : decode cX6_act 91 = .ok (.iload_n 3, 1) := by decide +kernel
theorem dX6_act_92 : decode cX6_act 92 = .ok (.aload_n 0, 1) := by decide +kernel
theorem dX6_act_93 : decode cX6_act 93 = .ok (.getfield 93, 3) := by decide +kernel
theorem dX6_act_96 : decode cX6_act 96 = .ok (.iload_n 1, 1) := by decide +kernel
theorem dX6_act_97 : decode cX6_act 97 = .ok (.iaload, 1) := by decide +kernel
theorem dX6_act_98 : decode cX6_act 98 = .ok (.iastore, 1) := by decide +kernel
theorem dX6_act_99 : decode cX6_act 99 = .ok (.aload_n 0, 1) := by decide +kernel
theorem dX6_act_100 : decode cX6_act 100 = .ok (.getfield 69, 3) := by decide +kernel
theorem dX6_act_103 : decode cX6_act 103 = .ok (.iload_n 3, 1) := by decide +kernel
theorem dX6_act_104 : decode cX6_act 104 = .ok (.iconst (-1), 1) := by decide +kernel
theorem dX6_act_105 : decode cX6_act 105 = .ok (.iastore, 1) := by decide +kernel
theorem dX6_act_106 : decode cX6_act 106 = .ok (.goto 27, 3) := by decide +kernel
theorem dX6_act_109 : decode cX6_act 109 = .ok (.aload_n 0, 1) := by decide +kernel
theorem dX6_act_110 : decode cX6_act 110 = .ok (.getfield 69, 3) := by decide +kernel
theorem dX6_act_113 : decode cX6_act 113 = .ok (.iload_n 3, 1) := by decide +kernel
theorem dX6_act_114 : decode cX6_act 114 = .ok (.aload_n 0, 1) := by decide +kernel
theorem dX6_act_115 : decode cX6_act 115 = .ok (.getfield 90, 3) := by decide +kernel
theorem dX6_act_118 : decode cX6_act 118 = .ok (.iload_n 1, 1) := by decide +kernel
theorem dX6_act_119 : decode cX6_act 119 = .ok (.iaload, 1) := by decide +kernel
theorem dX6_act_120 : decode cX6_act 120 = .ok (.iastore, 1) := by decide +kernel
theorem dX6_act_121 : decode cX6_act 121 = .ok (.aload_n 0, 1) := by decide +kernel
theorem dX6_act_122 : decode cX6_act 122 = .ok (.getfield 78, 3) := by decide +kernel
theorem dX6_act_125 : decode cX6_act 125 = .ok (.iload_n 3, 1) := by decide +kernel
theorem dX6_act_126 : decode cX6_act 126 = .ok (.aload_n 0, 1) := by decide +kernel
theorem dX6_act_127 : decode cX6_act 127 = .ok (.getfield 93, 3) := by decide +kernel
theorem dX6_act_130 : decode cX6_act 130 = .ok (.iload_n 1, 1) := by decide +kernel
theorem dX6_act_131 : decode cX6_act 131 = .ok (.iaload, 1) := by decide +kernel
theorem dX6_act_132 : decode cX6_act 132 = .ok (.iastore, 1) := by decide +kernel
theorem dX6_act_133 : decode cX6_act 133 = .ok (.return_, 1) := by decide +kernel
set_option maxRecDepth 20000 in
theorem dX6_take_0 : decode cX6_take 0 = .ok (.aload_n 0, 1) := by decide +kernel
theorem dX6_take_1 : decode cX6_take 1 = .ok (.getfield 60, 3) := by decide +kernel
theorem dX6_take_4 : decode cX6_take 4 = .ok (.iload_n 1, 1) := by decide +kernel
theorem dX6_take_5 : decode cX6_take 5 = .ok (.baload, 1) := by decide +kernel
theorem dX6_take_6 : decode cX6_take 6 = .ok (.ifCond .eq 4, 3) := by decide +kernel
theorem dX6_take_9 : decode cX6_take 9 = .ok (.return_, 1) := by decide +kernel
theorem dX6_take_10 : decode cX6_take 10 = .ok (.iconst 0, 1) := by decide +kernel
theorem dX6_take_11 : decode cX6_take 11 = .ok (.istore_n 2, 1) := by decide +kernel
theorem dX6_take_12 : decode cX6_take 12 = .ok (.iconst 0, 1) := by decide +kernel
theorem dX6_take_13 : decode cX6_take 13 = .ok (.istore_n 3, 1) := by decide +kernel
theorem dX6_take_14 : decode cX6_take 14 = .ok (.iload_n 3, 1) := by decide +kernel
theorem dX6_take_15 : decode cX6_take 15 = .ok (.aload_n 0, 1) := by decide +kernel
theorem dX6_take_16 : decode cX6_take 16 = .ok (.getfield 141, 3) := by decide +kernel
theorem dX6_take_19 : decode cX6_take 19 = .ok (.if_icmp .ge 115, 3) := by decide +kernel
theorem dX6_take_22 : decode cX6_take 22 = .ok (.aload_n 0, 1) := by decide +kernel
theorem dX6_take_23 : decode cX6_take 23 = .ok (.getfield 81, 3) := by decide +kernel
theorem dX6_take_26 : decode cX6_take 26 = .ok (.iload_n 3, 1) := by decide +kernel
theorem dX6_take_27 : decode cX6_take 27 = .ok (.iaload, 1) := by decide +kernel
theorem dX6_take_28 : decode cX6_take 28 = .ok (.iload_n 1, 1) := by decide +kernel
theorem dX6_take_29 : decode cX6_take 29 = .ok (.if_icmp .ne 24, 3) := by decide +kernel
theorem dX6_take_32 : decode cX6_take 32 = .ok (.aload_n 0, 1) := by decide +kernel
theorem dX6_take_33 : decode cX6_take 33 = .ok (.getfield 87, 3) := by decide +kernel
theorem dX6_take_36 : decode cX6_take 36 = .ok (.iload_n 3, 1) := by decide +kernel
theorem dX6_take_37 : decode cX6_take 37 = .ok (.iaload, 1) := by decide +kernel
theorem dX6_take_38 : decode cX6_take 38 = .ok (.aload_n 0, 1) := by decide +kernel
theorem dX6_take_39 : decode cX6_take 39 = .ok (.getfield 130, 3) := by decide +kernel
theorem dX6_take_42 : decode cX6_take 42 = .ok (.if_icmp .gt 11, 3) := by decide +kernel
theorem dX6_take_45 : decode cX6_take 45 = .ok (.aload_n 0, 1) := by decide +kernel
theorem dX6_take_46 : decode cX6_take 46 = .ok (.iload_n 3, 1) := by decide +kernel
theorem dX6_take_47 : decode cX6_take 47 = .ok (.invokevirtual 157, 3) := by decide +kernel
theorem dX6_take_50 : decode cX6_take 50 = .ok (.goto 78, 3) := by decide +kernel
theorem dX6_take_53 : decode cX6_take 53 = .ok (.aload_n 0, 1) := by decide +kernel
theorem dX6_take_54 : decode cX6_take 54 = .ok (.getfield 81, 3) := by decide +kernel
theorem dX6_take_57 : decode cX6_take 57 = .ok (.iload_n 2, 1) := by decide +kernel
theorem dX6_take_58 : decode cX6_take 58 = .ok (.aload_n 0, 1) := by decide +kernel
theorem dX6_take_59 : decode cX6_take 59 = .ok (.getfield 81, 3) := by decide +kernel
theorem dX6_take_62 : decode cX6_take 62 = .ok (.iload_n 3, 1) := by decide +kernel
theorem dX6_take_63 : decode cX6_take 63 = .ok (.iaload, 1) := by decide +kernel
theorem dX6_take_64 : decode cX6_take 64 = .ok (.iastore, 1) := by decide +kernel
theorem dX6_take_65 : decode cX6_take 65 = .ok (.aload_n 0, 1) := by decide +kernel
theorem dX6_take_66 : decode cX6_take 66 = .ok (.getfield 84, 3) := by decide +kernel
theorem dX6_take_69 : decode cX6_take 69 = .ok (.iload_n 2, 1) := by decide +kernel
theorem dX6_take_70 : decode cX6_take 70 = .ok (.aload_n 0, 1) := by decide +kernel
theorem dX6_take_71 : decode cX6_take 71 = .ok (.getfield 84, 3) := by decide +kernel
theorem dX6_take_74 : decode cX6_take 74 = .ok (.iload_n 3, 1) := by decide +kernel
theorem dX6_take_75 : decode cX6_take 75 = .ok (.iaload, 1) := by decide +kernel
theorem dX6_take_76 : decode cX6_take 76 = .ok (.iastore, 1) := by decide +kernel
theorem dX6_take_77 : decode cX6_take 77 = .ok (.aload_n 0, 1) := by decide +kernel
theorem dX6_take_78 : decode cX6_take 78 = .ok (.getfield 96, 3) := by decide +kernel
theorem dX6_take_81 : decode cX6_take 81 = .ok (.iload_n 2, 1) := by decide +kernel
theorem dX6_take_82 : decode cX6_take 82 = .ok (.aload_n 0, 1) := by decide +kernel
theorem dX6_take_83 : decode cX6_take 83 = .ok (.getfield 96, 3) := by decide +kernel
theorem dX6_take_86 : decode cX6_take 86 = .ok (.iload_n 3, 1) := by decide +kernel
theorem dX6_take_87 : decode cX6_take 87 = .ok (.baload, 1) := by decide +kernel
theorem dX6_take_88 : decode cX6_take 88 = .ok (.bastore, 1) := by decide +kernel
theorem dX6_take_89 : decode cX6_take 89 = .ok (.aload_n 0, 1) := by decide +kernel
theorem dX6_take_90 : decode cX6_take 90 = .ok (.getfield 87, 3) := by decide +kernel
theorem dX6_take_93 : decode cX6_take 93 = .ok (.iload_n 2, 1) := by decide +kernel
theorem dX6_take_94 : decode cX6_take 94 = .ok (.aload_n 0, 1) := by decide +kernel
theorem dX6_take_95 : decode cX6_take 95 = .ok (.getfield 87, 3) := by decide +kernel
theorem dX6_take_98 : decode cX6_take 98 = .ok (.iload_n 3, 1) := by decide +kernel
theorem dX6_take_99 : decode cX6_take 99 = .ok (.iaload, 1) := by decide +kernel
theorem dX6_take_100 : decode cX6_take 100 = .ok (.iastore, 1) := by decide +kernel
theorem dX6_take_101 : decode cX6_take 101 = .ok (.aload_n 0, 1) := by decide +kernel
theorem dX6_take_102 : decode cX6_take 102 = .ok (.getfield 90, 3) := by decide +kernel
theorem dX6_take_105 : decode cX6_take 105 = .ok (.iload_n 2, 1) := by decide +kernel
theorem dX6_take_106 : decode cX6_take 106 = .ok (.aload_n 0, 1) := by decide +kernel
theorem dX6_take_107 : decode cX6_take 107 = .ok (.getfield 90, 3) := by decide +kernel
theorem dX6_take_110 : decode cX6_take 110 = .ok (.iload_n 3, 1) := by decide +kernel
theorem dX6_take_111 : decode cX6_take 111 = .ok (.iaload, 1) := by decide +kernel
theorem dX6_take_112 : decode cX6_take 112 = .ok (.iastore, 1) := by decide +kernel
theorem dX6_take_113 : decode cX6_take 113 = .ok (.aload_n 0, 1) := by decide +kernel
theorem dX6_take_114 : decode cX6_take 114 = .ok (.getfield 93, 3) := by decide +kernel
theorem dX6_take_117 : decode cX6_take 117 = .ok (.iload_n 2, 1) := by decide +kernel
theorem dX6_take_118 : decode cX6_take 118 = .ok (.aload_n 0, 1) := by decide +kernel
theorem dX6_take_119 : decode cX6_take 119 = .ok (.getfield 93, 3) := by decide +kernel
theorem dX6_take_122 : decode cX6_take 122 = .ok (.iload_n 3, 1) := by decide +kernel
theorem dX6_take_123 : decode cX6_take 123 = .ok (.iaload, 1) := by decide +kernel
theorem dX6_take_124 : decode cX6_take 124 = .ok (.iastore, 1) := by decide +kernel
theorem dX6_take_125 : decode cX6_take 125 = .ok (.iinc 2 1, 3) := by decide +kernel
theorem dX6_take_128 : decode cX6_take 128 = .ok (.iinc 3 1, 3) := by decide +kernel
theorem dX6_take_131 : decode cX6_take 131 = .ok (.goto (-117), 3) := by decide +kernel
theorem dX6_take_134 : decode cX6_take 134 = .ok (.aload_n 0, 1) := by decide +kernel
theorem dX6_take_135 : decode cX6_take 135 = .ok (.iload_n 2, 1) := by decide +kernel
theorem dX6_take_136 : decode cX6_take 136 = .ok (.putfield 141, 3) := by decide +kernel
theorem dX6_take_139 : decode cX6_take 139 = .ok (.return_, 1) := by decide +kernel
theorem dX6_isOver_0 : decode cX6_isOver 0 = .ok (.aload_n 0, 1) := by decide +kernel
theorem dX6_isOver_1 : decode cX6_isOver 1 = .ok (.getfield 47, 3) := by decide +kernel
theorem dX6_isOver_4 : decode cX6_isOver 4 = .ok (.iload_n 1, 1) := by decide +kernel
theorem dX6_isOver_5 : decode cX6_isOver 5 = .ok (.iaload, 1) := by decide +kernel
theorem dX6_isOver_6 : decode cX6_isOver 6 = .ok (.ifCond .le 5, 3) := by decide +kernel
theorem dX6_isOver_9 : decode cX6_isOver 9 = .ok (.iconst 0, 1) := by decide +kernel
theorem dX6_isOver_10 : decode cX6_isOver 10 = .ok (.ireturn, 1) := by decide +kernel
theorem dX6_isOver_11 : decode cX6_isOver 11 = .ok (.aload_n 0, 1) := by decide +kernel
theorem dX6_isOver_12 : decode cX6_isOver 12 = .ok (.getfield 35, 3) := by decide +kernel
theorem dX6_isOver_15 : decode cX6_isOver 15 = .ok (.iload_n 1, 1) := by decide +kernel
theorem dX6_isOver_16 : decode cX6_isOver 16 = .ok (.iaload, 1) := by decide +kernel
theorem dX6_isOver_17 : decode cX6_isOver 17 = .ok (.iconst 3, 1) := by decide +kernel
theorem dX6_isOver_18 : decode cX6_isOver 18 = .ok (.if_icmp .eq 5, 3) := by decide +kernel
theorem dX6_isOver_21 : decode cX6_isOver 21 = .ok (.iconst 1, 1) := by decide +kernel
theorem dX6_isOver_22 : decode cX6_isOver 22 = .ok (.ireturn, 1) := by decide +kernel
theorem dX6_isOver_23 : decode cX6_isOver 23 = .ok (.aload_n 0, 1) := by decide +kernel
theorem dX6_isOver_24 : decode cX6_isOver 24 = .ok (.getfield 130, 3) := by decide +kernel
theorem dX6_isOver_27 : decode cX6_isOver 27 = .ok (.aload_n 0, 1) := by decide +kernel
theorem dX6_isOver_28 : decode cX6_isOver 28 = .ok (.getfield 38, 3) := by decide +kernel
theorem dX6_isOver_31 : decode cX6_isOver 31 = .ok (.iload_n 1, 1) := by decide +kernel
theorem dX6_isOver_32 : decode cX6_isOver 32 = .ok (.iaload, 1) := by decide +kernel
theorem dX6_isOver_33 : decode cX6_isOver 33 = .ok (.isub, 1) := by decide +kernel
theorem dX6_isOver_34 : decode cX6_isOver 34 = .ok (.aload_n 0, 1) := by decide +kernel
theorem dX6_isOver_35 : decode cX6_isOver 35 = .ok (.getfield 13, 3) := by decide +kernel
theorem dX6_isOver_38 : decode cX6_isOver 38 = .ok (.if_icmp .lt 5, 3) := by decide +kernel
theorem dX6_isOver_41 : decode cX6_isOver 41 = .ok (.iconst 1, 1) := by decide +kernel
theorem dX6_isOver_42 : decode cX6_isOver 42 = .ok (.ireturn, 1) := by decide +kernel
theorem dX6_isOver_43 : decode cX6_isOver 43 = .ok (.aload_n 0, 1) := by decide +kernel
theorem dX6_isOver_44 : decode cX6_isOver 44 = .ok (.getfield 130, 3) := by decide +kernel
theorem dX6_isOver_47 : decode cX6_isOver 47 = .ok (.aload_n 0, 1) := by decide +kernel
theorem dX6_isOver_48 : decode cX6_isOver 48 = .ok (.getfield 38, 3) := by decide +kernel
theorem dX6_isOver_51 : decode cX6_isOver 51 = .ok (.iload_n 1, 1) := by decide +kernel
theorem dX6_isOver_52 : decode cX6_isOver 52 = .ok (.iaload, 1) := by decide +kernel
theorem dX6_isOver_53 : decode cX6_isOver 53 = .ok (.isub, 1) := by decide +kernel
theorem dX6_isOver_54 : decode cX6_isOver 54 = .ok (.aload_n 0, 1) := by decide +kernel
theorem dX6_isOver_55 : decode cX6_isOver 55 = .ok (.getfield 7, 3) := by decide +kernel
theorem dX6_isOver_58 : decode cX6_isOver 58 = .ok (.if_icmp .lt 35, 3) := by decide +kernel
theorem dX6_isOver_61 : decode cX6_isOver 61 = .ok (.aload_n 0, 1) := by decide +kernel
theorem dX6_isOver_62 : decode cX6_isOver 62 = .ok (.getfield 44, 3) := by decide +kernel
theorem dX6_isOver_65 : decode cX6_isOver 65 = .ok (.iload_n 1, 1) := by decide +kernel
theorem dX6_isOver_66 : decode cX6_isOver 66 = .ok (.iaload, 1) := by decide +kernel
theorem dX6_isOver_67 : decode cX6_isOver 67 = .ok (.iconst (-1), 1) := by decide +kernel
theorem dX6_isOver_68 : decode cX6_isOver 68 = .ok (.if_icmp .eq 21, 3) := by decide +kernel
theorem dX6_isOver_71 : decode cX6_isOver 71 = .ok (.aload_n 0, 1) := by decide +kernel
theorem dX6_isOver_72 : decode cX6_isOver 72 = .ok (.getfield 130, 3) := by decide +kernel
theorem dX6_isOver_75 : decode cX6_isOver 75 = .ok (.aload_n 0, 1) := by decide +kernel
theorem dX6_isOver_76 : decode cX6_isOver 76 = .ok (.getfield 44, 3) := by decide +kernel
theorem dX6_isOver_79 : decode cX6_isOver 79 = .ok (.iload_n 1, 1) := by decide +kernel
theorem dX6_isOver_80 : decode cX6_isOver 80 = .ok (.iaload, 1) := by decide +kernel
theorem dX6_isOver_81 : decode cX6_isOver 81 = .ok (.isub, 1) := by decide +kernel
theorem dX6_isOver_82 : decode cX6_isOver 82 = .ok (.aload_n 0, 1) := by decide +kernel
theorem dX6_isOver_83 : decode cX6_isOver 83 = .ok (.getfield 7, 3) := by decide +kernel
theorem dX6_isOver_86 : decode cX6_isOver 86 = .ok (.if_icmp .lt 7, 3) := by decide +kernel
theorem dX6_isOver_89 : decode cX6_isOver 89 = .ok (.iconst 1, 1) := by decide +kernel
theorem dX6_isOver_90 : decode cX6_isOver 90 = .ok (.goto 4, 3) := by decide +kernel
theorem dX6_isOver_93 : decode cX6_isOver 93 = .ok (.iconst 0, 1) := by decide +kernel
theorem dX6_isOver_94 : decode cX6_isOver 94 = .ok (.ireturn, 1) := by decide +kernel
theorem dX6_next_0 : decode cX6_next 0 = .ok (.aload_n 0, 1) := by decide +kernel
theorem dX6_next_1 : decode cX6_next 1 = .ok (.getfield 35, 3) := by decide +kernel
theorem dX6_next_4 : decode cX6_next 4 = .ok (.iload_n 1, 1) := by decide +kernel
theorem dX6_next_5 : decode cX6_next 5 = .ok (.iaload, 1) := by decide +kernel
theorem dX6_next_6 : decode cX6_next 6 = .ok (.tableswitch 86 1 4 #[30, 45, 69, 71], 30) := by decide +kernel
theorem dX6_next_36 : decode cX6_next 36 = .ok (.aload_n 0, 1) := by decide +kernel
theorem dX6_next_37 : decode cX6_next 37 = .ok (.getfield 53, 3) := by decide +kernel
theorem dX6_next_40 : decode cX6_next 40 = .ok (.iload_n 1, 1) := by decide +kernel
theorem dX6_next_41 : decode cX6_next 41 = .ok (.baload, 1) := by decide +kernel
theorem dX6_next_42 : decode cX6_next 42 = .ok (.ifCond .eq 7, 3) := by decide +kernel
theorem dX6_next_45 : decode cX6_next 45 = .ok (.iconst 4, 1) := by decide +kernel
theorem dX6_next_46 : decode cX6_next 46 = .ok (.goto 4, 3) := by decide +kernel
theorem dX6_next_49 : decode cX6_next 49 = .ok (.iconst 2, 1) := by decide +kernel
theorem dX6_next_50 : decode cX6_next 50 = .ok (.ireturn, 1) := by decide +kernel
theorem dX6_next_51 : decode cX6_next 51 = .ok (.aload_n 0, 1) := by decide +kernel
theorem dX6_next_52 : decode cX6_next 52 = .ok (.getfield 16, 3) := by decide +kernel
theorem dX6_next_55 : decode cX6_next 55 = .ok (.iload_n 1, 1) := by decide +kernel
theorem dX6_next_56 : decode cX6_next 56 = .ok (.iaload, 1) := by decide +kernel
theorem dX6_next_57 : decode cX6_next 57 = .ok (.ifCond .ne 16, 3) := by decide +kernel
theorem dX6_next_60 : decode cX6_next 60 = .ok (.aload_n 0, 1) := by decide +kernel
theorem dX6_next_61 : decode cX6_next 61 = .ok (.getfield 53, 3) := by decide +kernel
theorem dX6_next_64 : decode cX6_next 64 = .ok (.iload_n 1, 1) := by decide +kernel
theorem dX6_next_65 : decode cX6_next 65 = .ok (.baload, 1) := by decide +kernel
theorem dX6_next_66 : decode cX6_next 66 = .ok (.ifCond .ne 7, 3) := by decide +kernel
theorem dX6_next_69 : decode cX6_next 69 = .ok (.iconst 3, 1) := by decide +kernel
theorem dX6_next_70 : decode cX6_next 70 = .ok (.goto 4, 3) := by decide +kernel
theorem dX6_next_73 : decode cX6_next 73 = .ok (.iconst 0, 1) := by decide +kernel
theorem dX6_next_74 : decode cX6_next 74 = .ok (.ireturn, 1) := by decide +kernel
theorem dX6_next_75 : decode cX6_next 75 = .ok (.iconst 4, 1) := by decide +kernel
theorem dX6_next_76 : decode cX6_next 76 = .ok (.ireturn, 1) := by decide +kernel
theorem dX6_next_77 : decode cX6_next 77 = .ok (.aload_n 0, 1) := by decide +kernel
theorem dX6_next_78 : decode cX6_next 78 = .ok (.getfield 53, 3) := by decide +kernel
theorem dX6_next_81 : decode cX6_next 81 = .ok (.iload_n 1, 1) := by decide +kernel
theorem dX6_next_82 : decode cX6_next 82 = .ok (.baload, 1) := by decide +kernel
theorem dX6_next_83 : decode cX6_next 83 = .ok (.ifCond .eq 7, 3) := by decide +kernel
theorem dX6_next_86 : decode cX6_next 86 = .ok (.iconst 2, 1) := by decide +kernel
theorem dX6_next_87 : decode cX6_next 87 = .ok (.goto 4, 3) := by decide +kernel
theorem dX6_next_90 : decode cX6_next 90 = .ok (.iconst 0, 1) := by decide +kernel
theorem dX6_next_91 : decode cX6_next 91 = .ok (.ireturn, 1) := by decide +kernel
theorem dX6_next_92 : decode cX6_next 92 = .ok (.iconst 2, 1) := by decide +kernel
theorem dX6_next_93 : decode cX6_next 93 = .ok (.ireturn, 1) := by decide +kernel
set_option maxRecDepth 20000 in
theorem dX6_goesOn_0 : decode cX6_goesOn 0 = .ok (.aload_n 0, 1) := by decide +kernel
theorem dX6_goesOn_1 : decode cX6_goesOn 1 = .ok (.getfield 35, 3) := by decide +kernel
theorem dX6_goesOn_4 : decode cX6_goesOn 4 = .ok (.iload_n 1, 1) := by decide +kernel
theorem dX6_goesOn_5 : decode cX6_goesOn 5 = .ok (.iaload, 1) := by decide +kernel
theorem dX6_goesOn_6 : decode cX6_goesOn 6 = .ok (.ifCond .eq 67, 3) := by decide +kernel
theorem dX6_goesOn_9 : decode cX6_goesOn 9 = .ok (.aload_n 0, 1) := by decide +kernel
theorem dX6_goesOn_10 : decode cX6_goesOn 10 = .ok (.iload_n 1, 1) := by decide +kernel
theorem dX6_goesOn_11 : decode cX6_goesOn 11 = .ok (.invokevirtual 161, 3) := by decide +kernel
theorem dX6_goesOn_14 : decode cX6_goesOn 14 = .ok (.ifCond .eq 59, 3) := by decide +kernel
theorem dX6_goesOn_17 : decode cX6_goesOn 17 = .ok (.aload_n 0, 1) := by decide +kernel
theorem dX6_goesOn_18 : decode cX6_goesOn 18 = .ok (.iload_n 1, 1) := by decide +kernel
theorem dX6_goesOn_19 : decode cX6_goesOn 19 = .ok (.invokevirtual 164, 3) := by decide +kernel
theorem dX6_goesOn_22 : decode cX6_goesOn 22 = .ok (.istore_n 2, 1) := by decide +kernel
theorem dX6_goesOn_23 : decode cX6_goesOn 23 = .ok (.iload_n 2, 1) := by decide +kernel
theorem dX6_goesOn_24 : decode cX6_goesOn 24 = .ok (.ifCond .ne 40, 3) := by decide +kernel
theorem dX6_goesOn_27 : decode cX6_goesOn 27 = .ok (.aload_n 0, 1) := by decide +kernel
theorem dX6_goesOn_28 : decode cX6_goesOn 28 = .ok (.getfield 35, 3) := by decide +kernel
theorem dX6_goesOn_31 : decode cX6_goesOn 31 = .ok (.iload_n 1, 1) := by decide +kernel
theorem dX6_goesOn_32 : decode cX6_goesOn 32 = .ok (.iconst 0, 1) := by decide +kernel
theorem dX6_goesOn_33 : decode cX6_goesOn 33 = .ok (.iastore, 1) := by decide +kernel
theorem dX6_goesOn_34 : decode cX6_goesOn 34 = .ok (.aload_n 0, 1) := by decide +kernel
theorem dX6_goesOn_35 : decode cX6_goesOn 35 = .ok (.getfield 50, 3) := by decide +kernel
theorem dX6_goesOn_38 : decode cX6_goesOn 38 = .ok (.iload_n 1, 1) := by decide +kernel
theorem dX6_goesOn_39 : decode cX6_goesOn 39 = .ok (.iaload, 1) := by decide +kernel
theorem dX6_goesOn_40 : decode cX6_goesOn 40 = .ok (.sipush 500, 3) := by decide +kernel
theorem dX6_goesOn_43 : decode cX6_goesOn 43 = .ok (.if_icmp .ge 27, 3) := by decide +kernel
theorem dX6_goesOn_46 : decode cX6_goesOn 46 = .ok (.aload_n 0, 1) := by decide +kernel
theorem dX6_goesOn_47 : decode cX6_goesOn 47 = .ok (.getfield 108, 3) := by decide +kernel
theorem dX6_goesOn_50 : decode cX6_goesOn 50 = .ok (.aload_n 0, 1) := by decide +kernel
theorem dX6_goesOn_51 : decode cX6_goesOn 51 = .ok (.getfield 50, 3) := by decide +kernel
theorem dX6_goesOn_54 : decode cX6_goesOn 54 = .ok (.iload_n 1, 1) := by decide +kernel
theorem dX6_goesOn_55 : decode cX6_goesOn 55 = .ok (.iaload, 1) := by decide +kernel
theorem dX6_goesOn_56 : decode cX6_goesOn 56 = .ok (.aload_n 0, 1) := by decide +kernel
theorem dX6_goesOn_57 : decode cX6_goesOn 57 = .ok (.getfield 130, 3) := by decide +kernel
theorem dX6_goesOn_60 : decode cX6_goesOn 60 = .ok (.iastore, 1) := by decide +kernel
theorem dX6_goesOn_61 : decode cX6_goesOn 61 = .ok (.goto 9, 3) := by decide +kernel
theorem dX6_goesOn_64 : decode cX6_goesOn 64 = .ok (.aload_n 0, 1) := by decide +kernel
theorem dX6_goesOn_65 : decode cX6_goesOn 65 = .ok (.iload_n 1, 1) := by decide +kernel
theorem dX6_goesOn_66 : decode cX6_goesOn 66 = .ok (.iload_n 2, 1) := by decide +kernel
theorem dX6_goesOn_67 : decode cX6_goesOn 67 = .ok (.invokevirtual 168, 3) := by decide +kernel
theorem dX6_goesOn_70 : decode cX6_goesOn 70 = .ok (.goto (-70), 3) := by decide +kernel
theorem dX6_goesOn_73 : decode cX6_goesOn 73 = .ok (.return_, 1) := by decide +kernel
set_option maxRecDepth 20000 in
theorem dX6_tick_0 : decode cX6_tick 0 = .ok (.aload_n 0, 1) := by decide +kernel
theorem dX6_tick_1 : decode cX6_tick 1 = .ok (.iconst 0, 1) := by decide +kernel
theorem dX6_tick_2 : decode cX6_tick 2 = .ok (.putfield 120, 3) := by decide +kernel
theorem dX6_tick_5 : decode cX6_tick 5 = .ok (.iload_n 1, 1) := by decide +kernel
theorem dX6_tick_6 : decode cX6_tick 6 = .ok (.iconst 0, 1) := by decide +kernel
theorem dX6_tick_7 : decode cX6_tick 7 = .ok (.sipush 2000, 3) := by decide +kernel
theorem dX6_tick_10 : decode cX6_tick 10 = .ok (.invokestatic 126, 3) := by decide +kernel
theorem dX6_tick_13 : decode cX6_tick 13 = .ok (.ifCond .eq 14, 3) := by decide +kernel
theorem dX6_tick_16 : decode cX6_tick 16 = .ok (.aload_n 0, 1) := by decide +kernel
theorem dX6_tick_17 : decode cX6_tick 17 = .ok (.getfield 130, 3) := by decide +kernel
theorem dX6_tick_20 : decode cX6_tick 20 = .ok (.iload_n 1, 1) := by decide +kernel
theorem dX6_tick_21 : decode cX6_tick 21 = .ok (.iadd, 1) := by decide +kernel
theorem dX6_tick_22 : decode cX6_tick 22 = .ok (.ldc 172, 2) := by decide +kernel
theorem dX6_tick_24 : decode cX6_tick 24 = .ok (.if_icmp .le 5, 3) := by decide +kernel
theorem dX6_tick_27 : decode cX6_tick 27 = .ok (.iconst (-1), 1) := by decide +kernel
theorem dX6_tick_28 : decode cX6_tick 28 = .ok (.ireturn, 1) := by decide +kernel
theorem dX6_tick_29 : decode cX6_tick 29 = .ok (.iconst 0, 1) := by decide +kernel
theorem dX6_tick_30 : decode cX6_tick 30 = .ok (.istore_n 2, 1) := by decide +kernel
theorem dX6_tick_31 : decode cX6_tick 31 = .ok (.iload_n 2, 1) := by decide +kernel
theorem dX6_tick_32 : decode cX6_tick 32 = .ok (.iload_n 1, 1) := by decide +kernel
theorem dX6_tick_33 : decode cX6_tick 33 = .ok (.if_icmp .ge 69, 3) := by decide +kernel
theorem dX6_tick_36 : decode cX6_tick 36 = .ok (.aload_n 0, 1) := by decide +kernel
theorem dX6_tick_37 : decode cX6_tick 37 = .ok (.dup, 1) := by decide +kernel
theorem dX6_tick_38 : decode cX6_tick 38 = .ok (.getfield 130, 3) := by decide +kernel
theorem dX6_tick_41 : decode cX6_tick 41 = .ok (.iconst 1, 1) := by decide +kernel
theorem dX6_tick_42 : decode cX6_tick 42 = .ok (.iadd, 1) := by decide +kernel
theorem dX6_tick_43 : decode cX6_tick 43 = .ok (.putfield 130, 3) := by decide +kernel
theorem dX6_tick_46 : decode cX6_tick 46 = .ok (.iconst 0, 1) := by decide +kernel
theorem dX6_tick_47 : decode cX6_tick 47 = .ok (.istore_n 3, 1) := by decide +kernel
theorem dX6_tick_48 : decode cX6_tick 48 = .ok (.iload_n 3, 1) := by decide +kernel
theorem dX6_tick_49 : decode cX6_tick 49 = .ok (.bipush 16, 2) := by decide +kernel
theorem dX6_tick_51 : decode cX6_tick 51 = .ok (.if_icmp .ge 14, 3) := by decide +kernel
theorem dX6_tick_54 : decode cX6_tick 54 = .ok (.aload_n 0, 1) := by decide +kernel
theorem dX6_tick_55 : decode cX6_tick 55 = .ok (.iload_n 3, 1) := by decide +kernel
theorem dX6_tick_56 : decode cX6_tick 56 = .ok (.invokevirtual 173, 3) := by decide +kernel
theorem dX6_tick_59 : decode cX6_tick 59 = .ok (.iinc 3 1, 3) := by decide +kernel
theorem dX6_tick_62 : decode cX6_tick 62 = .ok (.goto (-14), 3) := by decide +kernel
theorem dX6_tick_65 : decode cX6_tick 65 = .ok (.iconst 0, 1) := by decide +kernel
theorem dX6_tick_66 : decode cX6_tick 66 = .ok (.istore_n 3, 1) := by decide +kernel
theorem dX6_tick_67 : decode cX6_tick 67 = .ok (.iload_n 3, 1) := by decide +kernel
theorem dX6_tick_68 : decode cX6_tick 68 = .ok (.aload_n 0, 1) := by decide +kernel
theorem dX6_tick_69 : decode cX6_tick 69 = .ok (.getfield 123, 3) := by decide +kernel
theorem dX6_tick_72 : decode cX6_tick 72 = .ok (.if_icmp .ge 24, 3) := by decide +kernel
theorem dX6_tick_75 : decode cX6_tick 75 = .ok (.aload_n 0, 1) := by decide +kernel
theorem dX6_tick_76 : decode cX6_tick 76 = .ok (.getfield 60, 3) := by decide +kernel
theorem dX6_tick_79 : decode cX6_tick 79 = .ok (.bipush 16, 2) := by decide +kernel
theorem dX6_tick_81 : decode cX6_tick 81 = .ok (.baload, 1) := by decide +kernel
theorem dX6_tick_82 : decode cX6_tick 82 = .ok (.ifCond .ne 14, 3) := by decide +kernel
theorem dX6_tick_85 : decode cX6_tick 85 = .ok (.aload_n 0, 1) := by decide +kernel
theorem dX6_tick_86 : decode cX6_tick 86 = .ok (.iload_n 3, 1) := by decide +kernel
theorem dX6_tick_87 : decode cX6_tick 87 = .ok (.invokevirtual 176, 3) := by decide +kernel
theorem dX6_tick_90 : decode cX6_tick 90 = .ok (.iinc 3 1, 3) := by decide +kernel
theorem dX6_tick_93 : decode cX6_tick 93 = .ok (.goto (-26), 3) := by decide +kernel
theorem dX6_tick_96 : decode cX6_tick 96 = .ok (.iinc 2 1, 3) := by decide +kernel
theorem dX6_tick_99 : decode cX6_tick 99 = .ok (.goto (-68), 3) := by decide +kernel
theorem dX6_tick_102 : decode cX6_tick 102 = .ok (.aload_n 0, 1) := by decide +kernel
theorem dX6_tick_103 : decode cX6_tick 103 = .ok (.getfield 130, 3) := by decide +kernel
theorem dX6_tick_106 : decode cX6_tick 106 = .ok (.ireturn, 1) := by decide +kernel
set_option maxRecDepth 20000 in
theorem dX6_start_0 : decode cX6_start 0 = .ok (.aload_n 0, 1) := by decide +kernel
theorem dX6_start_1 : decode cX6_start 1 = .ok (.getfield 29, 3) := by decide +kernel
theorem dX6_start_4 : decode cX6_start 4 = .ok (.iload_n 1, 1) := by decide +kernel
theorem dX6_start_5 : decode cX6_start 5 = .ok (.dup2, 1) := by decide +kernel
theorem dX6_start_6 : decode cX6_start 6 = .ok (.iaload, 1) := by decide +kernel
theorem dX6_start_7 : decode cX6_start 7 = .ok (.iconst 1, 1) := by decide +kernel
theorem dX6_start_8 : decode cX6_start 8 = .ok (.iadd, 1) := by decide +kernel
theorem dX6_start_9 : decode cX6_start 9 = .ok (.iastore, 1) := by decide +kernel
theorem dX6_start_10 : decode cX6_start 10 = .ok (.aload_n 0, 1) := by decide +kernel
theorem dX6_start_11 : decode cX6_start 11 = .ok (.getfield 32, 3) := by decide +kernel
theorem dX6_start_14 : decode cX6_start 14 = .ok (.iload_n 1, 1) := by decide +kernel
theorem dX6_start_15 : decode cX6_start 15 = .ok (.aload_n 0, 1) := by decide +kernel
theorem dX6_start_16 : decode cX6_start 16 = .ok (.getfield 130, 3) := by decide +kernel
theorem dX6_start_19 : decode cX6_start 19 = .ok (.iastore, 1) := by decide +kernel
theorem dX6_start_20 : decode cX6_start 20 = .ok (.aload_n 0, 1) := by decide +kernel
theorem dX6_start_21 : decode cX6_start 21 = .ok (.getfield 53, 3) := by decide +kernel
theorem dX6_start_24 : decode cX6_start 24 = .ok (.iload_n 1, 1) := by decide +kernel
theorem dX6_start_25 : decode cX6_start 25 = .ok (.iload_n 2, 1) := by decide +kernel
theorem dX6_start_26 : decode cX6_start 26 = .ok (.ifCond .eq 16, 3) := by decide +kernel
theorem dX6_start_29 : decode cX6_start 29 = .ok (.aload_n 0, 1) := by decide +kernel
theorem dX6_start_30 : decode cX6_start 30 = .ok (.getfield 16, 3) := by decide +kernel
theorem dX6_start_33 : decode cX6_start 33 = .ok (.iload_n 1, 1) := by decide +kernel
theorem dX6_start_34 : decode cX6_start 34 = .ok (.iaload, 1) := by decide +kernel
theorem dX6_start_35 : decode cX6_start 35 = .ok (.ifCond .ne 7, 3) := by decide +kernel
theorem dX6_start_38 : decode cX6_start 38 = .ok (.iconst 1, 1) := by decide +kernel
theorem dX6_start_39 : decode cX6_start 39 = .ok (.goto 4, 3) := by decide +kernel
theorem dX6_start_42 : decode cX6_start 42 = .ok (.iconst 0, 1) := by decide +kernel
theorem dX6_start_43 : decode cX6_start 43 = .ok (.bastore, 1) := by decide +kernel
theorem dX6_start_44 : decode cX6_start 44 = .ok (.aload_n 0, 1) := by decide +kernel
theorem dX6_start_45 : decode cX6_start 45 = .ok (.getfield 50, 3) := by decide +kernel
theorem dX6_start_48 : decode cX6_start 48 = .ok (.iload_n 1, 1) := by decide +kernel
theorem dX6_start_49 : decode cX6_start 49 = .ok (.aload_n 0, 1) := by decide +kernel
theorem dX6_start_50 : decode cX6_start 50 = .ok (.getfield 179, 3) := by decide +kernel
theorem dX6_start_53 : decode cX6_start 53 = .ok (.iastore, 1) := by decide +kernel
theorem dX6_start_54 : decode cX6_start 54 = .ok (.aload_n 0, 1) := by decide +kernel
theorem dX6_start_55 : decode cX6_start 55 = .ok (.getfield 179, 3) := by decide +kernel
theorem dX6_start_58 : decode cX6_start 58 = .ok (.sipush 500, 3) := by decide +kernel
theorem dX6_start_61 : decode cX6_start 61 = .ok (.if_icmp .ge 61, 3) := by decide +kernel
theorem dX6_start_64 : decode cX6_start 64 = .ok (.aload_n 0, 1) := by decide +kernel
theorem dX6_start_65 : decode cX6_start 65 = .ok (.getfield 99, 3) := by decide +kernel
theorem dX6_start_68 : decode cX6_start 68 = .ok (.aload_n 0, 1) := by decide +kernel
theorem dX6_start_69 : decode cX6_start 69 = .ok (.getfield 179, 3) := by decide +kernel
theorem dX6_start_72 : decode cX6_start 72 = .ok (.iload_n 1, 1) := by decide +kernel
theorem dX6_start_73 : decode cX6_start 73 = .ok (.iastore, 1) := by decide +kernel
theorem dX6_start_74 : decode cX6_start 74 = .ok (.aload_n 0, 1) := by decide +kernel
theorem dX6_start_75 : decode cX6_start 75 = .ok (.getfield 102, 3) := by decide +kernel
theorem dX6_start_78 : decode cX6_start 78 = .ok (.aload_n 0, 1) := by decide +kernel
theorem dX6_start_79 : decode cX6_start 79 = .ok (.getfield 179, 3) := by decide +kernel
theorem dX6_start_82 : decode cX6_start 82 = .ok (.aload_n 0, 1) := by decide +kernel
theorem dX6_start_83 : decode cX6_start 83 = .ok (.getfield 29, 3) := by decide +kernel
theorem dX6_start_86 : decode cX6_start 86 = .ok (.iload_n 1, 1) := by decide +kernel
theorem dX6_start_87 : decode cX6_start 87 = .ok (.iaload, 1) := by decide +kernel
theorem dX6_start_88 : decode cX6_start 88 = .ok (.iastore, 1) := by decide +kernel
theorem dX6_start_89 : decode cX6_start 89 = .ok (.aload_n 0, 1) := by decide +kernel
theorem dX6_start_90 : decode cX6_start 90 = .ok (.getfield 105, 3) := by decide +kernel
theorem dX6_start_93 : decode cX6_start 93 = .ok (.aload_n 0, 1) := by decide +kernel
theorem dX6_start_94 : decode cX6_start 94 = .ok (.getfield 179, 3) := by decide +kernel
theorem dX6_start_97 : decode cX6_start 97 = .ok (.aload_n 0, 1) := by decide +kernel
theorem dX6_start_98 : decode cX6_start 98 = .ok (.getfield 130, 3) := by decide +kernel
theorem dX6_start_101 : decode cX6_start 101 = .ok (.iastore, 1) := by decide +kernel
theorem dX6_start_102 : decode cX6_start 102 = .ok (.aload_n 0, 1) := by decide +kernel
theorem dX6_start_103 : decode cX6_start 103 = .ok (.getfield 108, 3) := by decide +kernel
theorem dX6_start_106 : decode cX6_start 106 = .ok (.aload_n 0, 1) := by decide +kernel
theorem dX6_start_107 : decode cX6_start 107 = .ok (.getfield 179, 3) := by decide +kernel
theorem dX6_start_110 : decode cX6_start 110 = .ok (.iconst (-1), 1) := by decide +kernel
theorem dX6_start_111 : decode cX6_start 111 = .ok (.iastore, 1) := by decide +kernel
theorem dX6_start_112 : decode cX6_start 112 = .ok (.aload_n 0, 1) := by decide +kernel
theorem dX6_start_113 : decode cX6_start 113 = .ok (.getfield 111, 3) := by decide +kernel
theorem dX6_start_116 : decode cX6_start 116 = .ok (.aload_n 0, 1) := by decide +kernel
theorem dX6_start_117 : decode cX6_start 117 = .ok (.getfield 179, 3) := by decide +kernel
theorem dX6_start_120 : decode cX6_start 120 = .ok (.iload_n 2, 1) := by decide +kernel
theorem dX6_start_121 : decode cX6_start 121 = .ok (.bastore, 1) := by decide +kernel
theorem dX6_start_122 : decode cX6_start 122 = .ok (.aload_n 0, 1) := by decide +kernel
theorem dX6_start_123 : decode cX6_start 123 = .ok (.dup, 1) := by decide +kernel
theorem dX6_start_124 : decode cX6_start 124 = .ok (.getfield 179, 3) := by decide +kernel
theorem dX6_start_127 : decode cX6_start 127 = .ok (.iconst 1, 1) := by decide +kernel
theorem dX6_start_128 : decode cX6_start 128 = .ok (.iadd, 1) := by decide +kernel
theorem dX6_start_129 : decode cX6_start 129 = .ok (.putfield 179, 3) := by decide +kernel
theorem dX6_start_132 : decode cX6_start 132 = .ok (.aload_n 0, 1) := by decide +kernel
theorem dX6_start_133 : decode cX6_start 133 = .ok (.iload_n 1, 1) := by decide +kernel
theorem dX6_start_134 : decode cX6_start 134 = .ok (.aload_n 0, 1) := by decide +kernel
theorem dX6_start_135 : decode cX6_start 135 = .ok (.getfield 16, 3) := by decide +kernel
theorem dX6_start_138 : decode cX6_start 138 = .ok (.iload_n 1, 1) := by decide +kernel
theorem dX6_start_139 : decode cX6_start 139 = .ok (.iaload, 1) := by decide +kernel
theorem dX6_start_140 : decode cX6_start 140 = .ok (.ifCond .ne 7, 3) := by decide +kernel
theorem dX6_start_143 : decode cX6_start 143 = .ok (.iconst 1, 1) := by decide +kernel
theorem dX6_start_144 : decode cX6_start 144 = .ok (.goto 4, 3) := by decide +kernel
theorem dX6_start_147 : decode cX6_start 147 = .ok (.iconst 5, 1) := by decide +kernel
theorem dX6_start_148 : decode cX6_start 148 = .ok (.invokevirtual 168, 3) := by decide +kernel
theorem dX6_start_151 : decode cX6_start 151 = .ok (.return_, 1) := by decide +kernel
set_option maxRecDepth 20000 in
theorem dX6_turn_0 : decode cX6_turn 0 = .ok (.aload_n 0, 1) := by decide +kernel
theorem dX6_turn_1 : decode cX6_turn 1 = .ok (.iconst 0, 1) := by decide +kernel
theorem dX6_turn_2 : decode cX6_turn 2 = .ok (.putfield 120, 3) := by decide +kernel
theorem dX6_turn_5 : decode cX6_turn 5 = .ok (.aload_n 0, 1) := by decide +kernel
theorem dX6_turn_6 : decode cX6_turn 6 = .ok (.iload_n 1, 1) := by decide +kernel
theorem dX6_turn_7 : decode cX6_turn 7 = .ok (.invokevirtual 133, 3) := by decide +kernel
theorem dX6_turn_10 : decode cX6_turn 10 = .ok (.ifCond .eq 22, 3) := by decide +kernel
theorem dX6_turn_13 : decode cX6_turn 13 = .ok (.aload_n 0, 1) := by decide +kernel
theorem dX6_turn_14 : decode cX6_turn 14 = .ok (.getfield 60, 3) := by decide +kernel
theorem dX6_turn_17 : decode cX6_turn 17 = .ok (.bipush 16, 2) := by decide +kernel
theorem dX6_turn_19 : decode cX6_turn 19 = .ok (.baload, 1) := by decide +kernel
theorem dX6_turn_20 : decode cX6_turn 20 = .ok (.ifCond .ne 12, 3) := by decide +kernel
theorem dX6_turn_23 : decode cX6_turn 23 = .ok (.aload_n 0, 1) := by decide +kernel
theorem dX6_turn_24 : decode cX6_turn 24 = .ok (.getfield 35, 3) := by decide +kernel
theorem dX6_turn_27 : decode cX6_turn 27 = .ok (.iload_n 1, 1) := by decide +kernel
theorem dX6_turn_28 : decode cX6_turn 28 = .ok (.iaload, 1) := by decide +kernel
theorem dX6_turn_29 : decode cX6_turn 29 = .ok (.ifCond .eq 5, 3) := by decide +kernel
theorem dX6_turn_32 : decode cX6_turn 32 = .ok (.iconst (-1), 1) := by decide +kernel
theorem dX6_turn_33 : decode cX6_turn 33 = .ok (.ireturn, 1) := by decide +kernel
theorem dX6_turn_34 : decode cX6_turn 34 = .ok (.iconst 0, 1) := by decide +kernel
theorem dX6_turn_35 : decode cX6_turn 35 = .ok (.istore_n 2, 1) := by decide +kernel
theorem dX6_turn_36 : decode cX6_turn 36 = .ok (.iload_n 2, 1) := by decide +kernel
theorem dX6_turn_37 : decode cX6_turn 37 = .ok (.aload_n 0, 1) := by decide +kernel
theorem dX6_turn_38 : decode cX6_turn 38 = .ok (.getfield 123, 3) := by decide +kernel
theorem dX6_turn_41 : decode cX6_turn 41 = .ok (.if_icmp .ge 38, 3) := by decide +kernel
theorem dX6_turn_44 : decode cX6_turn 44 = .ok (.aload_n 0, 1) := by decide +kernel
theorem dX6_turn_45 : decode cX6_turn 45 = .ok (.getfield 35, 3) := by decide +kernel
theorem dX6_turn_48 : decode cX6_turn 48 = .ok (.iload_n 2, 1) := by decide +kernel
theorem dX6_turn_49 : decode cX6_turn 49 = .ok (.iaload, 1) := by decide +kernel
theorem dX6_turn_50 : decode cX6_turn 50 = .ok (.ifCond .eq 23, 3) := by decide +kernel
theorem dX6_turn_53 : decode cX6_turn 53 = .ok (.aload_n 0, 1) := by decide +kernel
theorem dX6_turn_54 : decode cX6_turn 54 = .ok (.iload_n 1, 1) := by decide +kernel
theorem dX6_turn_55 : decode cX6_turn 55 = .ok (.iload_n 2, 1) := by decide +kernel
theorem dX6_turn_56 : decode cX6_turn 56 = .ok (.invokevirtual 137, 3) := by decide +kernel
theorem dX6_turn_59 : decode cX6_turn 59 = .ok (.ifCond .ne 12, 3) := by decide +kernel
theorem dX6_turn_62 : decode cX6_turn 62 = .ok (.aload_n 0, 1) := by decide +kernel
theorem dX6_turn_63 : decode cX6_turn 63 = .ok (.iload_n 2, 1) := by decide +kernel
theorem dX6_turn_64 : decode cX6_turn 64 = .ok (.iload_n 1, 1) := by decide +kernel
theorem dX6_turn_65 : decode cX6_turn 65 = .ok (.invokevirtual 137, 3) := by decide +kernel
theorem dX6_turn_68 : decode cX6_turn 68 = .ok (.ifCond .eq 5, 3) := by decide +kernel
theorem dX6_turn_71 : decode cX6_turn 71 = .ok (.iconst (-1), 1) := by decide +kernel
theorem dX6_turn_72 : decode cX6_turn 72 = .ok (.ireturn, 1) := by decide +kernel
theorem dX6_turn_73 : decode cX6_turn 73 = .ok (.iinc 2 1, 3) := by decide +kernel
theorem dX6_turn_76 : decode cX6_turn 76 = .ok (.goto (-40), 3) := by decide +kernel
theorem dX6_turn_79 : decode cX6_turn 79 = .ok (.aload_n 0, 1) := by decide +kernel
theorem dX6_turn_80 : decode cX6_turn 80 = .ok (.iload_n 1, 1) := by decide +kernel
theorem dX6_turn_81 : decode cX6_turn 81 = .ok (.iconst 0, 1) := by decide +kernel
theorem dX6_turn_82 : decode cX6_turn 82 = .ok (.invokevirtual 182, 3) := by decide +kernel
theorem dX6_turn_85 : decode cX6_turn 85 = .ok (.aload_n 0, 1) := by decide +kernel
theorem dX6_turn_86 : decode cX6_turn 86 = .ok (.getfield 29, 3) := by decide +kernel
theorem dX6_turn_89 : decode cX6_turn 89 = .ok (.iload_n 1, 1) := by decide +kernel
theorem dX6_turn_90 : decode cX6_turn 90 = .ok (.iaload, 1) := by decide +kernel
theorem dX6_turn_91 : decode cX6_turn 91 = .ok (.ireturn, 1) := by decide +kernel
set_option maxRecDepth 20000 in
theorem dX6_stolen_0 : decode cX6_stolen 0 = .ok (.aload_n 0, 1) := by decide +kernel
theorem dX6_stolen_1 : decode cX6_stolen 1 = .ok (.iconst 0, 1) := by decide +kernel
theorem dX6_stolen_2 : decode cX6_stolen 2 = .ok (.putfield 120, 3) := by decide +kernel
theorem dX6_stolen_5 : decode cX6_stolen 5 = .ok (.aload_n 0, 1) := by decide +kernel
theorem dX6_stolen_6 : decode cX6_stolen 6 = .ok (.iload_n 1, 1) := by decide +kernel
theorem dX6_stolen_7 : decode cX6_stolen 7 = .ok (.invokevirtual 133, 3) := by decide +kernel
theorem dX6_stolen_10 : decode cX6_stolen 10 = .ok (.ifCond .eq 13, 3) := by decide +kernel
theorem dX6_stolen_13 : decode cX6_stolen 13 = .ok (.aload_n 0, 1) := by decide +kernel
theorem dX6_stolen_14 : decode cX6_stolen 14 = .ok (.getfield 60, 3) := by decide +kernel
theorem dX6_stolen_17 : decode cX6_stolen 17 = .ok (.bipush 16, 2) := by decide +kernel
theorem dX6_stolen_19 : decode cX6_stolen 19 = .ok (.baload, 1) := by decide +kernel
theorem dX6_stolen_20 : decode cX6_stolen 20 = .ok (.ifCond .eq 5, 3) := by decide +kernel
theorem dX6_stolen_23 : decode cX6_stolen 23 = .ok (.iconst (-1), 1) := by decide +kernel
theorem dX6_stolen_24 : decode cX6_stolen 24 = .ok (.ireturn, 1) := by decide +kernel
theorem dX6_stolen_25 : decode cX6_stolen 25 = .ok (.aload_n 0, 1) := by decide +kernel
theorem dX6_stolen_26 : decode cX6_stolen 26 = .ok (.getfield 35, 3) := by decide +kernel
theorem dX6_stolen_29 : decode cX6_stolen 29 = .ok (.iload_n 1, 1) := by decide +kernel
theorem dX6_stolen_30 : decode cX6_stolen 30 = .ok (.iaload, 1) := by decide +kernel
theorem dX6_stolen_31 : decode cX6_stolen 31 = .ok (.ifCond .ne 16, 3) := by decide +kernel
theorem dX6_stolen_34 : decode cX6_stolen 34 = .ok (.aload_n 0, 1) := by decide +kernel
theorem dX6_stolen_35 : decode cX6_stolen 35 = .ok (.iload_n 1, 1) := by decide +kernel
theorem dX6_stolen_36 : decode cX6_stolen 36 = .ok (.iconst 1, 1) := by decide +kernel
theorem dX6_stolen_37 : decode cX6_stolen 37 = .ok (.invokevirtual 182, 3) := by decide +kernel
theorem dX6_stolen_40 : decode cX6_stolen 40 = .ok (.aload_n 0, 1) := by decide +kernel
theorem dX6_stolen_41 : decode cX6_stolen 41 = .ok (.getfield 29, 3) := by decide +kernel
theorem dX6_stolen_44 : decode cX6_stolen 44 = .ok (.iload_n 1, 1) := by decide +kernel
theorem dX6_stolen_45 : decode cX6_stolen 45 = .ok (.iaload, 1) := by decide +kernel
theorem dX6_stolen_46 : decode cX6_stolen 46 = .ok (.ireturn, 1) := by decide +kernel
theorem dX6_stolen_47 : decode cX6_stolen 47 = .ok (.aload_n 0, 1) := by decide +kernel
theorem dX6_stolen_48 : decode cX6_stolen 48 = .ok (.getfield 50, 3) := by decide +kernel
theorem dX6_stolen_51 : decode cX6_stolen 51 = .ok (.iload_n 1, 1) := by decide +kernel
theorem dX6_stolen_52 : decode cX6_stolen 52 = .ok (.iaload, 1) := by decide +kernel
theorem dX6_stolen_53 : decode cX6_stolen 53 = .ok (.sipush 500, 3) := by decide +kernel
theorem dX6_stolen_56 : decode cX6_stolen 56 = .ok (.if_icmp .ge 15, 3) := by decide +kernel
theorem dX6_stolen_59 : decode cX6_stolen 59 = .ok (.aload_n 0, 1) := by decide +kernel
theorem dX6_stolen_60 : decode cX6_stolen 60 = .ok (.getfield 111, 3) := by decide +kernel
theorem dX6_stolen_63 : decode cX6_stolen 63 = .ok (.aload_n 0, 1) := by decide +kernel
theorem dX6_stolen_64 : decode cX6_stolen 64 = .ok (.getfield 50, 3) := by decide +kernel
theorem dX6_stolen_67 : decode cX6_stolen 67 = .ok (.iload_n 1, 1) := by decide +kernel
theorem dX6_stolen_68 : decode cX6_stolen 68 = .ok (.iaload, 1) := by decide +kernel
theorem dX6_stolen_69 : decode cX6_stolen 69 = .ok (.iconst 1, 1) := by decide +kernel
theorem dX6_stolen_70 : decode cX6_stolen 70 = .ok (.bastore, 1) := by decide +kernel
theorem dX6_stolen_71 : decode cX6_stolen 71 = .ok (.aload_n 0, 1) := by decide +kernel
theorem dX6_stolen_72 : decode cX6_stolen 72 = .ok (.getfield 16, 3) := by decide +kernel
theorem dX6_stolen_75 : decode cX6_stolen 75 = .ok (.iload_n 1, 1) := by decide +kernel
theorem dX6_stolen_76 : decode cX6_stolen 76 = .ok (.iaload, 1) := by decide +kernel
theorem dX6_stolen_77 : decode cX6_stolen 77 = .ok (.ifCond .ne 48, 3) := by decide +kernel
theorem dX6_stolen_80 : decode cX6_stolen 80 = .ok (.aload_n 0, 1) := by decide +kernel
theorem dX6_stolen_81 : decode cX6_stolen 81 = .ok (.getfield 53, 3) := by decide +kernel
theorem dX6_stolen_84 : decode cX6_stolen 84 = .ok (.iload_n 1, 1) := by decide +kernel
theorem dX6_stolen_85 : decode cX6_stolen 85 = .ok (.baload, 1) := by decide +kernel
theorem dX6_stolen_86 : decode cX6_stolen 86 = .ok (.ifCond .ne 39, 3) := by decide +kernel
theorem dX6_stolen_89 : decode cX6_stolen 89 = .ok (.aload_n 0, 1) := by decide +kernel
theorem dX6_stolen_90 : decode cX6_stolen 90 = .ok (.getfield 35, 3) := by decide +kernel
theorem dX6_stolen_93 : decode cX6_stolen 93 = .ok (.iload_n 1, 1) := by decide +kernel
theorem dX6_stolen_94 : decode cX6_stolen 94 = .ok (.iaload, 1) := by decide +kernel
theorem dX6_stolen_95 : decode cX6_stolen 95 = .ok (.iconst 1, 1) := by decide +kernel
theorem dX6_stolen_96 : decode cX6_stolen 96 = .ok (.if_icmp .ne 13, 3) := by decide +kernel
theorem dX6_stolen_99 : decode cX6_stolen 99 = .ok (.aload_n 0, 1) := by decide +kernel
theorem dX6_stolen_100 : decode cX6_stolen 100 = .ok (.getfield 53, 3) := by decide +kernel
theorem dX6_stolen_103 : decode cX6_stolen 103 = .ok (.iload_n 1, 1) := by decide +kernel
theorem dX6_stolen_104 : decode cX6_stolen 104 = .ok (.iconst 1, 1) := by decide +kernel
theorem dX6_stolen_105 : decode cX6_stolen 105 = .ok (.bastore, 1) := by decide +kernel
theorem dX6_stolen_106 : decode cX6_stolen 106 = .ok (.goto 19, 3) := by decide +kernel
theorem dX6_stolen_109 : decode cX6_stolen 109 = .ok (.aload_n 0, 1) := by decide +kernel
theorem dX6_stolen_110 : decode cX6_stolen 110 = .ok (.getfield 35, 3) := by decide +kernel
theorem dX6_stolen_113 : decode cX6_stolen 113 = .ok (.iload_n 1, 1) := by decide +kernel
theorem dX6_stolen_114 : decode cX6_stolen 114 = .ok (.iaload, 1) := by decide +kernel
theorem dX6_stolen_115 : decode cX6_stolen 115 = .ok (.iconst 4, 1) := by decide +kernel
theorem dX6_stolen_116 : decode cX6_stolen 116 = .ok (.if_icmp .ge 9, 3) := by decide +kernel
theorem dX6_stolen_119 : decode cX6_stolen 119 = .ok (.aload_n 0, 1) := by decide +kernel
theorem dX6_stolen_120 : decode cX6_stolen 120 = .ok (.iload_n 1, 1) := by decide +kernel
theorem dX6_stolen_121 : decode cX6_stolen 121 = .ok (.iconst 4, 1) := by decide +kernel
theorem dX6_stolen_122 : decode cX6_stolen 122 = .ok (.invokevirtual 168, 3) := by decide +kernel
theorem dX6_stolen_125 : decode cX6_stolen 125 = .ok (.aload_n 0, 1) := by decide +kernel
theorem dX6_stolen_126 : decode cX6_stolen 126 = .ok (.getfield 29, 3) := by decide +kernel
theorem dX6_stolen_129 : decode cX6_stolen 129 = .ok (.iload_n 1, 1) := by decide +kernel
theorem dX6_stolen_130 : decode cX6_stolen 130 = .ok (.iaload, 1) := by decide +kernel
theorem dX6_stolen_131 : decode cX6_stolen 131 = .ok (.ireturn, 1) := by decide +kernel
theorem dX6_isGood_0 : decode cX6_isGood 0 = .ok (.aload_n 0, 1) := by decide +kernel
theorem dX6_isGood_1 : decode cX6_isGood 1 = .ok (.getfield 66, 3) := by decide +kernel
theorem dX6_isGood_4 : decode cX6_isGood 4 = .ok (.bipush 6, 2) := by decide +kernel
theorem dX6_isGood_6 : decode cX6_isGood 6 = .ok (.iload_n 1, 1) := by decide +kernel
theorem dX6_isGood_7 : decode cX6_isGood 7 = .ok (.imul, 1) := by decide +kernel
theorem dX6_isGood_8 : decode cX6_isGood 8 = .ok (.iload_n 2, 1) := by decide +kernel
theorem dX6_isGood_9 : decode cX6_isGood 9 = .ok (.iadd, 1) := by decide +kernel
theorem dX6_isGood_10 : decode cX6_isGood 10 = .ok (.iaload, 1) := by decide +kernel
theorem dX6_isGood_11 : decode cX6_isGood 11 = .ok (.iload_n 3, 1) := by decide +kernel
theorem dX6_isGood_12 : decode cX6_isGood 12 = .ok (.if_icmp .eq 18, 3) := by decide +kernel
theorem dX6_isGood_15 : decode cX6_isGood 15 = .ok (.aload_n 0, 1) := by decide +kernel
theorem dX6_isGood_16 : decode cX6_isGood 16 = .ok (.getfield 69, 3) := by decide +kernel
theorem dX6_isGood_19 : decode cX6_isGood 19 = .ok (.bipush 6, 2) := by decide +kernel
theorem dX6_isGood_21 : decode cX6_isGood 21 = .ok (.iload_n 1, 1) := by decide +kernel
theorem dX6_isGood_22 : decode cX6_isGood 22 = .ok (.imul, 1) := by decide +kernel
theorem dX6_isGood_23 : decode cX6_isGood 23 = .ok (.iload_n 2, 1) := by decide +kernel
theorem dX6_isGood_24 : decode cX6_isGood 24 = .ok (.iadd, 1) := by decide +kernel
theorem dX6_isGood_25 : decode cX6_isGood 25 = .ok (.iaload, 1) := by decide +kernel
theorem dX6_isGood_26 : decode cX6_isGood 26 = .ok (.iload_n 3, 1) := by decide +kernel
theorem dX6_isGood_27 : decode cX6_isGood 27 = .ok (.if_icmp .ne 7, 3) := by decide +kernel
theorem dX6_isGood_30 : decode cX6_isGood 30 = .ok (.iconst 1, 1) := by decide +kernel
theorem dX6_isGood_31 : decode cX6_isGood 31 = .ok (.goto 4, 3) := by decide +kernel
theorem dX6_isGood_34 : decode cX6_isGood 34 = .ok (.iconst 0, 1) := by decide +kernel
theorem dX6_isGood_35 : decode cX6_isGood 35 = .ok (.ireturn, 1) := by decide +kernel
set_option maxRecDepth 20000 in
theorem dX6_asks_0 : decode cX6_asks 0 = .ok (.iload 5, 2) := by decide +kernel
theorem dX6_asks_2 : decode cX6_asks 2 = .ok (.ifCond .eq 30, 3) := by decide +kernel
theorem dX6_asks_5 : decode cX6_asks 5 = .ok (.aload_n 0, 1) := by decide +kernel
theorem dX6_asks_6 : decode cX6_asks 6 = .ok (.getfield 60, 3) := by decide +kernel
theorem dX6_asks_9 : decode cX6_asks 9 = .ok (.bipush 10, 2) := by decide +kernel
theorem dX6_asks_11 : decode cX6_asks 11 = .ok (.iload_n 3, 1) := by decide +kernel
theorem dX6_asks_12 : decode cX6_asks 12 = .ok (.iadd, 1) := by decide +kernel
theorem dX6_asks_13 : decode cX6_asks 13 = .ok (.baload, 1) := by decide +kernel
theorem dX6_asks_14 : decode cX6_asks 14 = .ok (.ifCond .ne 18, 3) := by decide +kernel
theorem dX6_asks_17 : decode cX6_asks 17 = .ok (.aload_n 0, 1) := by decide +kernel
theorem dX6_asks_18 : decode cX6_asks 18 = .ok (.iload_n 2, 1) := by decide +kernel
theorem dX6_asks_19 : decode cX6_asks 19 = .ok (.iload_n 3, 1) := by decide +kernel
theorem dX6_asks_20 : decode cX6_asks 20 = .ok (.iload 4, 2) := by decide +kernel
theorem dX6_asks_22 : decode cX6_asks 22 = .ok (.invokevirtual 186, 3) := by decide +kernel
theorem dX6_asks_25 : decode cX6_asks 25 = .ok (.ifCond .eq 7, 3) := by decide +kernel
theorem dX6_asks_28 : decode cX6_asks 28 = .ok (.iconst 1, 1) := by decide +kernel
theorem dX6_asks_29 : decode cX6_asks 29 = .ok (.goto 4, 3) := by decide +kernel
theorem dX6_asks_32 : decode cX6_asks 32 = .ok (.iconst 0, 1) := by decide +kernel
theorem dX6_asks_33 : decode cX6_asks 33 = .ok (.istore 6, 2) := by decide +kernel
theorem dX6_asks_35 : decode cX6_asks 35 = .ok (.iload 6, 2) := by decide +kernel
theorem dX6_asks_37 : decode cX6_asks 37 = .ok (.ifCond .ne 15, 3) := by decide +kernel
theorem dX6_asks_40 : decode cX6_asks 40 = .ok (.aload_n 0, 1) := by decide +kernel
theorem dX6_asks_41 : decode cX6_asks 41 = .ok (.dup, 1) := by decide +kernel
theorem dX6_asks_42 : decode cX6_asks 42 = .ok (.getfield 189, 3) := by decide +kernel
theorem dX6_asks_45 : decode cX6_asks 45 = .ok (.iconst 1, 1) := by decide +kernel
theorem dX6_asks_46 : decode cX6_asks 46 = .ok (.iadd, 1) := by decide +kernel
theorem dX6_asks_47 : decode cX6_asks 47 = .ok (.putfield 189, 3) := by decide +kernel
theorem dX6_asks_50 : decode cX6_asks 50 = .ok (.iconst 0, 1) := by decide +kernel
theorem dX6_asks_51 : decode cX6_asks 51 = .ok (.ireturn, 1) := by decide +kernel
theorem dX6_asks_52 : decode cX6_asks 52 = .ok (.aload_n 0, 1) := by decide +kernel
theorem dX6_asks_53 : decode cX6_asks 53 = .ok (.dup, 1) := by decide +kernel
theorem dX6_asks_54 : decode cX6_asks 54 = .ok (.getfield 192, 3) := by decide +kernel
theorem dX6_asks_57 : decode cX6_asks 57 = .ok (.iconst 1, 1) := by decide +kernel
theorem dX6_asks_58 : decode cX6_asks 58 = .ok (.iadd, 1) := by decide +kernel
theorem dX6_asks_59 : decode cX6_asks 59 = .ok (.putfield 192, 3) := by decide +kernel
theorem dX6_asks_62 : decode cX6_asks 62 = .ok (.aload_n 0, 1) := by decide +kernel
theorem dX6_asks_63 : decode cX6_asks 63 = .ok (.getfield 35, 3) := by decide +kernel
theorem dX6_asks_66 : decode cX6_asks 66 = .ok (.iload_n 2, 1) := by decide +kernel
theorem dX6_asks_67 : decode cX6_asks 67 = .ok (.iaload, 1) := by decide +kernel
theorem dX6_asks_68 : decode cX6_asks 68 = .ok (.ifCond .eq 36, 3) := by decide +kernel
theorem dX6_asks_71 : decode cX6_asks 71 = .ok (.iload 4, 2) := by decide +kernel
theorem dX6_asks_73 : decode cX6_asks 73 = .ok (.aload_n 0, 1) := by decide +kernel
theorem dX6_asks_74 : decode cX6_asks 74 = .ok (.getfield 29, 3) := by decide +kernel
theorem dX6_asks_77 : decode cX6_asks 77 = .ok (.iload_n 2, 1) := by decide +kernel
theorem dX6_asks_78 : decode cX6_asks 78 = .ok (.iaload, 1) := by decide +kernel
theorem dX6_asks_79 : decode cX6_asks 79 = .ok (.if_icmp .eq 25, 3) := by decide +kernel
theorem dX6_asks_82 : decode cX6_asks 82 = .ok (.aload_n 0, 1) := by decide +kernel
theorem dX6_asks_83 : decode cX6_asks 83 = .ok (.getfield 41, 3) := by decide +kernel
theorem dX6_asks_86 : decode cX6_asks 86 = .ok (.iload_n 2, 1) := by decide +kernel
theorem dX6_asks_87 : decode cX6_asks 87 = .ok (.dup2, 1) := by decide +kernel
theorem dX6_asks_88 : decode cX6_asks 88 = .ok (.iaload, 1) := by decide +kernel
theorem dX6_asks_89 : decode cX6_asks 89 = .ok (.iconst 1, 1) := by decide +kernel
theorem dX6_asks_90 : decode cX6_asks 90 = .ok (.iload_n 1, 1) := by decide +kernel
theorem dX6_asks_91 : decode cX6_asks 91 = .ok (.ishl, 1) := by decide +kernel
theorem dX6_asks_92 : decode cX6_asks 92 = .ok (.ior, 1) := by decide +kernel
theorem dX6_asks_93 : decode cX6_asks 93 = .ok (.iastore, 1) := by decide +kernel
theorem dX6_asks_94 : decode cX6_asks 94 = .ok (.aload_n 0, 1) := by decide +kernel
theorem dX6_asks_95 : decode cX6_asks 95 = .ok (.getfield 44, 3) := by decide +kernel
end
section
theorem dX6_asks_98 : decode cX6_asks 98 = .ok (.iload_n 2, 1) := by decide +kernel
theorem dX6_asks_99 : decode cX6_asks 99 = .ok (.aload_n 0, 1) := by decide +kernel
theorem dX6_asks_100 : decode cX6_asks 100 = .ok (.getfield 130, 3) := by decide +kernel
theorem dX6_asks_103 : decode cX6_asks 103 = .ok (.iastore, 1) := by decide +kernel
theorem dX6_asks_104 : decode cX6_asks 104 = .ok (.iconst 1, 1) := by decide +kernel
theorem dX6_asks_105 : decode cX6_asks 105 = .ok (.ireturn, 1) := by decide +kernel
set_option maxRecDepth 20000 in
theorem dX6_isChecker_0 : decode cX6_isChecker 0 = .ok (.aload_n 0, 1) := by decide +kernel
theorem dX6_isChecker_1 : decode cX6_isChecker 1 = .ok (.iload_n 2, 1) := by decide +kernel
theorem dX6_isChecker_2 : decode cX6_isChecker 2 = .ok (.invokevirtual 133, 3) := by decide +kernel
theorem dX6_isChecker_5 : decode cX6_isChecker 5 = .ok (.ifCond .eq 29, 3) := by decide +kernel
theorem dX6_isChecker_8 : decode cX6_isChecker 8 = .ok (.iload_n 1, 1) := by decide +kernel
theorem dX6_isChecker_9 : decode cX6_isChecker 9 = .ok (.iconst 0, 1) := by decide +kernel
theorem dX6_isChecker_10 : decode cX6_isChecker 10 = .ok (.iconst 5, 1) := by decide +kernel
theorem dX6_isChecker_11 : decode cX6_isChecker 11 = .ok (.invokestatic 126, 3) := by decide +kernel
theorem dX6_isChecker_14 : decode cX6_isChecker 14 = .ok (.ifCond .eq 20, 3) := by decide +kernel
theorem dX6_isChecker_17 : decode cX6_isChecker 17 = .ok (.aload_n 0, 1) := by decide +kernel
theorem dX6_isChecker_18 : decode cX6_isChecker 18 = .ok (.getfield 23, 3) := by decide +kernel
theorem dX6_isChecker_21 : decode cX6_isChecker 21 = .ok (.iload_n 2, 1) := by decide +kernel
theorem dX6_isChecker_22 : decode cX6_isChecker 22 = .ok (.iaload, 1) := by decide +kernel
theorem dX6_isChecker_23 : decode cX6_isChecker 23 = .ok (.iload_n 1, 1) := by decide +kernel
theorem dX6_isChecker_24 : decode cX6_isChecker 24 = .ok (.invokestatic 150, 3) := by decide +kernel
theorem dX6_isChecker_27 : decode cX6_isChecker 27 = .ok (.ifCond .eq 7, 3) := by decide +kernel
theorem dX6_isChecker_30 : decode cX6_isChecker 30 = .ok (.iconst 1, 1) := by decide +kernel
theorem dX6_isChecker_31 : decode cX6_isChecker 31 = .ok (.goto 4, 3) := by decide +kernel
theorem dX6_isChecker_34 : decode cX6_isChecker 34 = .ok (.iconst 0, 1) := by decide +kernel
theorem dX6_isChecker_35 : decode cX6_isChecker 35 = .ok (.ireturn, 1) := by decide +kernel
set_option maxRecDepth 20000 in
theorem dX6_isHolder_0 : decode cX6_isHolder 0 = .ok (.aload_n 0, 1) := by decide +kernel
theorem dX6_isHolder_1 : decode cX6_isHolder 1 = .ok (.iload_n 2, 1) := by decide +kernel
theorem dX6_isHolder_2 : decode cX6_isHolder 2 = .ok (.invokevirtual 133, 3) := by decide +kernel
theorem dX6_isHolder_5 : decode cX6_isHolder 5 = .ok (.ifCond .eq 30, 3) := by decide +kernel
theorem dX6_isHolder_8 : decode cX6_isHolder 8 = .ok (.iload_n 1, 1) := by decide +kernel
theorem dX6_isHolder_9 : decode cX6_isHolder 9 = .ok (.iconst 0, 1) := by decide +kernel
theorem dX6_isHolder_10 : decode cX6_isHolder 10 = .ok (.bipush 9, 2) := by decide +kernel
theorem dX6_isHolder_12 : decode cX6_isHolder 12 = .ok (.invokestatic 126, 3) := by decide +kernel
theorem dX6_isHolder_15 : decode cX6_isHolder 15 = .ok (.ifCond .eq 20, 3) := by decide +kernel
theorem dX6_isHolder_18 : decode cX6_isHolder 18 = .ok (.aload_n 0, 1) := by decide +kernel
theorem dX6_isHolder_19 : decode cX6_isHolder 19 = .ok (.getfield 20, 3) := by decide +kernel
theorem dX6_isHolder_22 : decode cX6_isHolder 22 = .ok (.iload_n 2, 1) := by decide +kernel
theorem dX6_isHolder_23 : decode cX6_isHolder 23 = .ok (.iaload, 1) := by decide +kernel
theorem dX6_isHolder_24 : decode cX6_isHolder 24 = .ok (.iload_n 1, 1) := by decide +kernel
theorem dX6_isHolder_25 : decode cX6_isHolder 25 = .ok (.invokestatic 150, 3) := by decide +kernel
theorem dX6_isHolder_28 : decode cX6_isHolder 28 = .ok (.ifCond .eq 7, 3) := by decide +kernel
theorem dX6_isHolder_31 : decode cX6_isHolder 31 = .ok (.iconst 1, 1) := by decide +kernel
theorem dX6_isHolder_32 : decode cX6_isHolder 32 = .ok (.goto 4, 3) := by decide +kernel
theorem dX6_isHolder_35 : decode cX6_isHolder 35 = .ok (.iconst 0, 1) := by decide +kernel
theorem dX6_isHolder_36 : decode cX6_isHolder 36 = .ok (.ireturn, 1) := by decide +kernel
set_option maxRecDepth 20000 in
theorem dX6_ask_0 : decode cX6_ask 0 = .ok (.aload_n 0, 1) := by decide +kernel
theorem dX6_ask_1 : decode cX6_ask 1 = .ok (.iconst 0, 1) := by decide +kernel
theorem dX6_ask_2 : decode cX6_ask 2 = .ok (.putfield 120, 3) := by decide +kernel
theorem dX6_ask_5 : decode cX6_ask 5 = .ok (.aload_n 0, 1) := by decide +kernel
theorem dX6_ask_6 : decode cX6_ask 6 = .ok (.iload_n 1, 1) := by decide +kernel
theorem dX6_ask_7 : decode cX6_ask 7 = .ok (.iload_n 2, 1) := by decide +kernel
theorem dX6_ask_8 : decode cX6_ask 8 = .ok (.invokevirtual 195, 3) := by decide +kernel
theorem dX6_ask_11 : decode cX6_ask 11 = .ok (.ifCond .eq 12, 3) := by decide +kernel
theorem dX6_ask_14 : decode cX6_ask 14 = .ok (.aload_n 0, 1) := by decide +kernel
theorem dX6_ask_15 : decode cX6_ask 15 = .ok (.iload_n 3, 1) := by decide +kernel
theorem dX6_ask_16 : decode cX6_ask 16 = .ok (.iload_n 2, 1) := by decide +kernel
theorem dX6_ask_17 : decode cX6_ask 17 = .ok (.invokevirtual 198, 3) := by decide +kernel
theorem dX6_ask_20 : decode cX6_ask 20 = .ok (.ifCond .ne 5, 3) := by decide +kernel
theorem dX6_ask_23 : decode cX6_ask 23 = .ok (.iconst (-1), 1) := by decide +kernel
theorem dX6_ask_24 : decode cX6_ask 24 = .ok (.ireturn, 1) := by decide +kernel
theorem dX6_ask_25 : decode cX6_ask 25 = .ok (.aload_n 0, 1) := by decide +kernel
theorem dX6_ask_26 : decode cX6_ask 26 = .ok (.iload_n 1, 1) := by decide +kernel
theorem dX6_ask_27 : decode cX6_ask 27 = .ok (.iload_n 2, 1) := by decide +kernel
theorem dX6_ask_28 : decode cX6_ask 28 = .ok (.iload_n 3, 1) := by decide +kernel
theorem dX6_ask_29 : decode cX6_ask 29 = .ok (.aload_n 0, 1) := by decide +kernel
theorem dX6_ask_30 : decode cX6_ask 30 = .ok (.getfield 63, 3) := by decide +kernel
theorem dX6_ask_33 : decode cX6_ask 33 = .ok (.bipush 10, 2) := by decide +kernel
theorem dX6_ask_35 : decode cX6_ask 35 = .ok (.iload_n 2, 1) := by decide +kernel
theorem dX6_ask_36 : decode cX6_ask 36 = .ok (.imul, 1) := by decide +kernel
theorem dX6_ask_37 : decode cX6_ask 37 = .ok (.iload_n 1, 1) := by decide +kernel
theorem dX6_ask_38 : decode cX6_ask 38 = .ok (.iadd, 1) := by decide +kernel
theorem dX6_ask_39 : decode cX6_ask 39 = .ok (.iaload, 1) := by decide +kernel
theorem dX6_ask_40 : decode cX6_ask 40 = .ok (.aload_n 0, 1) := by decide +kernel
theorem dX6_ask_41 : decode cX6_ask 41 = .ok (.getfield 60, 3) := by decide +kernel
theorem dX6_ask_44 : decode cX6_ask 44 = .ok (.iload_n 1, 1) := by decide +kernel
theorem dX6_ask_45 : decode cX6_ask 45 = .ok (.baload, 1) := by decide +kernel
theorem dX6_ask_46 : decode cX6_ask 46 = .ok (.ifCond .ne 7, 3) := by decide +kernel
theorem dX6_ask_49 : decode cX6_ask 49 = .ok (.iconst 1, 1) := by decide +kernel
theorem dX6_ask_50 : decode cX6_ask 50 = .ok (.goto 4, 3) := by decide +kernel
theorem dX6_ask_53 : decode cX6_ask 53 = .ok (.iconst 0, 1) := by decide +kernel
theorem dX6_ask_54 : decode cX6_ask 54 = .ok (.invokevirtual 201, 3) := by decide +kernel
theorem dX6_ask_57 : decode cX6_ask 57 = .ok (.ireturn, 1) := by decide +kernel
set_option maxRecDepth 20000 in
theorem dX6_stranger_0 : decode cX6_stranger 0 = .ok (.aload_n 0, 1) := by decide +kernel
theorem dX6_stranger_1 : decode cX6_stranger 1 = .ok (.iconst 0, 1) := by decide +kernel
theorem dX6_stranger_2 : decode cX6_stranger 2 = .ok (.putfield 120, 3) := by decide +kernel
theorem dX6_stranger_5 : decode cX6_stranger 5 = .ok (.aload_n 0, 1) := by decide +kernel
theorem dX6_stranger_6 : decode cX6_stranger 6 = .ok (.iload_n 3, 1) := by decide +kernel
theorem dX6_stranger_7 : decode cX6_stranger 7 = .ok (.iload_n 2, 1) := by decide +kernel
theorem dX6_stranger_8 : decode cX6_stranger 8 = .ok (.invokevirtual 198, 3) := by decide +kernel
theorem dX6_stranger_11 : decode cX6_stranger 11 = .ok (.ifCond .eq 37, 3) := by decide +kernel
theorem dX6_stranger_14 : decode cX6_stranger 14 = .ok (.iload_n 1, 1) := by decide +kernel
theorem dX6_stranger_15 : decode cX6_stranger 15 = .ok (.iconst 0, 1) := by decide +kernel
theorem dX6_stranger_16 : decode cX6_stranger 16 = .ok (.bipush 9, 2) := by decide +kernel
theorem dX6_stranger_18 : decode cX6_stranger 18 = .ok (.invokestatic 126, 3) := by decide +kernel
theorem dX6_stranger_21 : decode cX6_stranger 21 = .ok (.ifCond .eq 27, 3) := by decide +kernel
theorem dX6_stranger_24 : decode cX6_stranger 24 = .ok (.aload_n 0, 1) := by decide +kernel
theorem dX6_stranger_25 : decode cX6_stranger 25 = .ok (.iload_n 1, 1) := by decide +kernel
theorem dX6_stranger_26 : decode cX6_stranger 26 = .ok (.iload_n 2, 1) := by decide +kernel
theorem dX6_stranger_27 : decode cX6_stranger 27 = .ok (.invokevirtual 195, 3) := by decide +kernel
theorem dX6_stranger_30 : decode cX6_stranger 30 = .ok (.ifCond .ne 18, 3) := by decide +kernel
theorem dX6_stranger_33 : decode cX6_stranger 33 = .ok (.iload 4, 2) := by decide +kernel
theorem dX6_stranger_35 : decode cX6_stranger 35 = .ok (.iconst 0, 1) := by decide +kernel
theorem dX6_stranger_36 : decode cX6_stranger 36 = .ok (.aload_n 0, 1) := by decide +kernel
theorem dX6_stranger_37 : decode cX6_stranger 37 = .ok (.getfield 29, 3) := by decide +kernel
theorem dX6_stranger_40 : decode cX6_stranger 40 = .ok (.iload_n 2, 1) := by decide +kernel
theorem dX6_stranger_41 : decode cX6_stranger 41 = .ok (.iaload, 1) := by decide +kernel
theorem dX6_stranger_42 : decode cX6_stranger 42 = .ok (.invokestatic 126, 3) := by decide +kernel
theorem dX6_stranger_45 : decode cX6_stranger 45 = .ok (.ifCond .ne 5, 3) := by decide +kernel
theorem dX6_stranger_48 : decode cX6_stranger 48 = .ok (.iconst (-1), 1) := by decide +kernel
theorem dX6_stranger_49 : decode cX6_stranger 49 = .ok (.ireturn, 1) := by decide +kernel
theorem dX6_stranger_50 : decode cX6_stranger 50 = .ok (.aload_n 0, 1) := by decide +kernel
theorem dX6_stranger_51 : decode cX6_stranger 51 = .ok (.iload_n 1, 1) := by decide +kernel
theorem dX6_stranger_52 : decode cX6_stranger 52 = .ok (.iload_n 2, 1) := by decide +kernel
theorem dX6_stranger_53 : decode cX6_stranger 53 = .ok (.iload_n 3, 1) := by decide +kernel
theorem dX6_stranger_54 : decode cX6_stranger 54 = .ok (.iload 4, 2) := by decide +kernel
theorem dX6_stranger_56 : decode cX6_stranger 56 = .ok (.iconst 1, 1) := by decide +kernel
theorem dX6_stranger_57 : decode cX6_stranger 57 = .ok (.invokevirtual 201, 3) := by decide +kernel
theorem dX6_stranger_60 : decode cX6_stranger 60 = .ok (.ireturn, 1) := by decide +kernel
set_option maxRecDepth 20000 in
theorem dX6_age_0 : decode cX6_age 0 = .ok (.aload_n 0, 1) := by decide +kernel
theorem dX6_age_1 : decode cX6_age 1 = .ok (.getfield 130, 3) := by decide +kernel
theorem dX6_age_4 : decode cX6_age 4 = .ok (.istore_n 2, 1) := by decide +kernel
theorem dX6_age_5 : decode cX6_age 5 = .ok (.iconst 0, 1) := by decide +kernel
theorem dX6_age_6 : decode cX6_age 6 = .ok (.istore_n 3, 1) := by decide +kernel
theorem dX6_age_7 : decode cX6_age 7 = .ok (.iload_n 3, 1) := by decide +kernel
theorem dX6_age_8 : decode cX6_age 8 = .ok (.bipush 6, 2) := by decide +kernel
theorem dX6_age_10 : decode cX6_age 10 = .ok (.if_icmp .ge 68, 3) := by decide +kernel
theorem dX6_age_13 : decode cX6_age 13 = .ok (.aload_n 0, 1) := by decide +kernel
theorem dX6_age_14 : decode cX6_age 14 = .ok (.getfield 23, 3) := by decide +kernel
theorem dX6_age_17 : decode cX6_age 17 = .ok (.iload_n 1, 1) := by decide +kernel
theorem dX6_age_18 : decode cX6_age 18 = .ok (.iaload, 1) := by decide +kernel
theorem dX6_age_19 : decode cX6_age 19 = .ok (.iload_n 3, 1) := by decide +kernel
theorem dX6_age_20 : decode cX6_age 20 = .ok (.invokestatic 150, 3) := by decide +kernel
theorem dX6_age_23 : decode cX6_age 23 = .ok (.ifCond .ne 6, 3) := by decide +kernel
theorem dX6_age_26 : decode cX6_age 26 = .ok (.goto 46, 3) := by decide +kernel
theorem dX6_age_29 : decode cX6_age 29 = .ok (.bipush 6, 2) := by decide +kernel
theorem dX6_age_31 : decode cX6_age 31 = .ok (.iload_n 1, 1) := by decide +kernel
theorem dX6_age_32 : decode cX6_age 32 = .ok (.imul, 1) := by decide +kernel
theorem dX6_age_33 : decode cX6_age 33 = .ok (.iload_n 3, 1) := by decide +kernel
theorem dX6_age_34 : decode cX6_age 34 = .ok (.iadd, 1) := by decide +kernel
theorem dX6_age_35 : decode cX6_age 35 = .ok (.istore 4, 2) := by decide +kernel
theorem dX6_age_37 : decode cX6_age 37 = .ok (.iload_n 2, 1) := by decide +kernel
theorem dX6_age_38 : decode cX6_age 38 = .ok (.aload_n 0, 1) := by decide +kernel
theorem dX6_age_39 : decode cX6_age 39 = .ok (.getfield 75, 3) := by decide +kernel
theorem dX6_age_42 : decode cX6_age 42 = .ok (.iload 4, 2) := by decide +kernel
theorem dX6_age_44 : decode cX6_age 44 = .ok (.iaload, 1) := by decide +kernel
theorem dX6_age_45 : decode cX6_age 45 = .ok (.invokestatic 205, 3) := by decide +kernel
theorem dX6_age_48 : decode cX6_age 48 = .ok (.istore_n 2, 1) := by decide +kernel
theorem dX6_age_49 : decode cX6_age 49 = .ok (.aload_n 0, 1) := by decide +kernel
theorem dX6_age_50 : decode cX6_age 50 = .ok (.getfield 69, 3) := by decide +kernel
theorem dX6_age_53 : decode cX6_age 53 = .ok (.iload 4, 2) := by decide +kernel
theorem dX6_age_55 : decode cX6_age 55 = .ok (.iaload, 1) := by decide +kernel
theorem dX6_age_56 : decode cX6_age 56 = .ok (.iconst (-1), 1) := by decide +kernel
theorem dX6_age_57 : decode cX6_age 57 = .ok (.if_icmp .eq 15, 3) := by decide +kernel
theorem dX6_age_60 : decode cX6_age 60 = .ok (.iload_n 2, 1) := by decide +kernel
theorem dX6_age_61 : decode cX6_age 61 = .ok (.aload_n 0, 1) := by decide +kernel
theorem dX6_age_62 : decode cX6_age 62 = .ok (.getfield 78, 3) := by decide +kernel
theorem dX6_age_65 : decode cX6_age 65 = .ok (.iload 4, 2) := by decide +kernel
theorem dX6_age_67 : decode cX6_age 67 = .ok (.iaload, 1) := by decide +kernel
theorem dX6_age_68 : decode cX6_age 68 = .ok (.invokestatic 205, 3) := by decide +kernel
theorem dX6_age_71 : decode cX6_age 71 = .ok (.istore_n 2, 1) := by decide +kernel
theorem dX6_age_72 : decode cX6_age 72 = .ok (.iinc 3 1, 3) := by decide +kernel
theorem dX6_age_75 : decode cX6_age 75 = .ok (.goto (-68), 3) := by decide +kernel
theorem dX6_age_78 : decode cX6_age 78 = .ok (.aload_n 0, 1) := by decide +kernel
theorem dX6_age_79 : decode cX6_age 79 = .ok (.getfield 130, 3) := by decide +kernel
theorem dX6_age_82 : decode cX6_age 82 = .ok (.iload_n 2, 1) := by decide +kernel
theorem dX6_age_83 : decode cX6_age 83 = .ok (.isub, 1) := by decide +kernel
theorem dX6_age_84 : decode cX6_age 84 = .ok (.ireturn, 1) := by decide +kernel
set_option maxRecDepth 20000 in
theorem dX6_lockedOut_0 : decode cX6_lockedOut 0 = .ok (.iconst 0, 1) := by decide +kernel
theorem dX6_lockedOut_1 : decode cX6_lockedOut 1 = .ok (.istore_n 2, 1) := by decide +kernel
theorem dX6_lockedOut_2 : decode cX6_lockedOut 2 = .ok (.iconst 0, 1) := by decide +kernel
theorem dX6_lockedOut_3 : decode cX6_lockedOut 3 = .ok (.istore_n 3, 1) := by decide +kernel
theorem dX6_lockedOut_4 : decode cX6_lockedOut 4 = .ok (.iload_n 3, 1) := by decide +kernel
theorem dX6_lockedOut_5 : decode cX6_lockedOut 5 = .ok (.bipush 10, 2) := by decide +kernel
theorem dX6_lockedOut_7 : decode cX6_lockedOut 7 = .ok (.if_icmp .ge 102, 3) := by decide +kernel
theorem dX6_lockedOut_10 : decode cX6_lockedOut 10 = .ok (.aload_n 0, 1) := by decide +kernel
theorem dX6_lockedOut_11 : decode cX6_lockedOut 11 = .ok (.getfield 20, 3) := by decide +kernel
theorem dX6_lockedOut_14 : decode cX6_lockedOut 14 = .ok (.iload_n 1, 1) := by decide +kernel
theorem dX6_lockedOut_15 : decode cX6_lockedOut 15 = .ok (.iaload, 1) := by decide +kernel
theorem dX6_lockedOut_16 : decode cX6_lockedOut 16 = .ok (.iload_n 3, 1) := by decide +kernel
theorem dX6_lockedOut_17 : decode cX6_lockedOut 17 = .ok (.invokestatic 150, 3) := by decide +kernel
theorem dX6_lockedOut_20 : decode cX6_lockedOut 20 = .ok (.ifCond .ne 6, 3) := by decide +kernel
theorem dX6_lockedOut_23 : decode cX6_lockedOut 23 = .ok (.goto 80, 3) := by decide +kernel
theorem dX6_lockedOut_26 : decode cX6_lockedOut 26 = .ok (.iconst 1, 1) := by decide +kernel
theorem dX6_lockedOut_27 : decode cX6_lockedOut 27 = .ok (.istore 4, 2) := by decide +kernel
theorem dX6_lockedOut_29 : decode cX6_lockedOut 29 = .ok (.iconst 0, 1) := by decide +kernel
theorem dX6_lockedOut_30 : decode cX6_lockedOut 30 = .ok (.istore 5, 2) := by decide +kernel
theorem dX6_lockedOut_32 : decode cX6_lockedOut 32 = .ok (.iload 5, 2) := by decide +kernel
theorem dX6_lockedOut_34 : decode cX6_lockedOut 34 = .ok (.bipush 6, 2) := by decide +kernel
theorem dX6_lockedOut_36 : decode cX6_lockedOut 36 = .ok (.if_icmp .ge 56, 3) := by decide +kernel
theorem dX6_lockedOut_39 : decode cX6_lockedOut 39 = .ok (.iload 4, 2) := by decide +kernel
theorem dX6_lockedOut_41 : decode cX6_lockedOut 41 = .ok (.ifCond .eq 42, 3) := by decide +kernel
theorem dX6_lockedOut_44 : decode cX6_lockedOut 44 = .ok (.aload_n 0, 1) := by decide +kernel
theorem dX6_lockedOut_45 : decode cX6_lockedOut 45 = .ok (.getfield 23, 3) := by decide +kernel
theorem dX6_lockedOut_48 : decode cX6_lockedOut 48 = .ok (.iload_n 1, 1) := by decide +kernel
theorem dX6_lockedOut_49 : decode cX6_lockedOut 49 = .ok (.iaload, 1) := by decide +kernel
theorem dX6_lockedOut_50 : decode cX6_lockedOut 50 = .ok (.iload 5, 2) := by decide +kernel
theorem dX6_lockedOut_52 : decode cX6_lockedOut 52 = .ok (.invokestatic 150, 3) := by decide +kernel
theorem dX6_lockedOut_55 : decode cX6_lockedOut 55 = .ok (.ifCond .eq 24, 3) := by decide +kernel
theorem dX6_lockedOut_58 : decode cX6_lockedOut 58 = .ok (.aload_n 0, 1) := by decide +kernel
theorem dX6_lockedOut_59 : decode cX6_lockedOut 59 = .ok (.iload_n 1, 1) := by decide +kernel
theorem dX6_lockedOut_60 : decode cX6_lockedOut 60 = .ok (.iload 5, 2) := by decide +kernel
theorem dX6_lockedOut_62 : decode cX6_lockedOut 62 = .ok (.aload_n 0, 1) := by decide +kernel
theorem dX6_lockedOut_63 : decode cX6_lockedOut 63 = .ok (.getfield 63, 3) := by decide +kernel
theorem dX6_lockedOut_66 : decode cX6_lockedOut 66 = .ok (.bipush 10, 2) := by decide +kernel
theorem dX6_lockedOut_68 : decode cX6_lockedOut 68 = .ok (.iload_n 1, 1) := by decide +kernel
theorem dX6_lockedOut_69 : decode cX6_lockedOut 69 = .ok (.imul, 1) := by decide +kernel
theorem dX6_lockedOut_70 : decode cX6_lockedOut 70 = .ok (.iload_n 3, 1) := by decide +kernel
theorem dX6_lockedOut_71 : decode cX6_lockedOut 71 = .ok (.iadd, 1) := by decide +kernel
theorem dX6_lockedOut_72 : decode cX6_lockedOut 72 = .ok (.iaload, 1) := by decide +kernel
theorem dX6_lockedOut_73 : decode cX6_lockedOut 73 = .ok (.invokevirtual 186, 3) := by decide +kernel
theorem dX6_lockedOut_76 : decode cX6_lockedOut 76 = .ok (.ifCond .eq 7, 3) := by decide +kernel
theorem dX6_lockedOut_79 : decode cX6_lockedOut 79 = .ok (.iconst 1, 1) := by decide +kernel
theorem dX6_lockedOut_80 : decode cX6_lockedOut 80 = .ok (.goto 4, 3) := by decide +kernel
theorem dX6_lockedOut_83 : decode cX6_lockedOut 83 = .ok (.iconst 0, 1) := by decide +kernel
theorem dX6_lockedOut_84 : decode cX6_lockedOut 84 = .ok (.istore 4, 2) := by decide +kernel
theorem dX6_lockedOut_86 : decode cX6_lockedOut 86 = .ok (.iinc 5 1, 3) := by decide +kernel
theorem dX6_lockedOut_89 : decode cX6_lockedOut 89 = .ok (.goto (-57), 3) := by decide +kernel
theorem dX6_lockedOut_92 : decode cX6_lockedOut 92 = .ok (.iload 4, 2) := by decide +kernel
theorem dX6_lockedOut_94 : decode cX6_lockedOut 94 = .ok (.ifCond .ne 9, 3) := by decide +kernel
theorem dX6_lockedOut_97 : decode cX6_lockedOut 97 = .ok (.iload_n 2, 1) := by decide +kernel
theorem dX6_lockedOut_98 : decode cX6_lockedOut 98 = .ok (.iconst 1, 1) := by decide +kernel
theorem dX6_lockedOut_99 : decode cX6_lockedOut 99 = .ok (.iload_n 3, 1) := by decide +kernel
theorem dX6_lockedOut_100 : decode cX6_lockedOut 100 = .ok (.ishl, 1) := by decide +kernel
theorem dX6_lockedOut_101 : decode cX6_lockedOut 101 = .ok (.ior, 1) := by decide +kernel
theorem dX6_lockedOut_102 : decode cX6_lockedOut 102 = .ok (.istore_n 2, 1) := by decide +kernel
theorem dX6_lockedOut_103 : decode cX6_lockedOut 103 = .ok (.iinc 3 1, 3) := by decide +kernel
theorem dX6_lockedOut_106 : decode cX6_lockedOut 106 = .ok (.goto (-102), 3) := by decide +kernel
theorem dX6_lockedOut_109 : decode cX6_lockedOut 109 = .ok (.iload_n 2, 1) := by decide +kernel
theorem dX6_lockedOut_110 : decode cX6_lockedOut 110 = .ok (.ireturn, 1) := by decide +kernel
set_option maxRecDepth 20000 in
theorem dX6_told_0 : decode cX6_told 0 = .ok (.aload_n 0, 1) := by decide +kernel
theorem dX6_told_1 : decode cX6_told 1 = .ok (.iconst 0, 1) := by decide +kernel
theorem dX6_told_2 : decode cX6_told 2 = .ok (.putfield 120, 3) := by decide +kernel
theorem dX6_told_5 : decode cX6_told 5 = .ok (.aload_n 0, 1) := by decide +kernel
theorem dX6_told_6 : decode cX6_told 6 = .ok (.iload_n 1, 1) := by decide +kernel
theorem dX6_told_7 : decode cX6_told 7 = .ok (.invokevirtual 133, 3) := by decide +kernel
theorem dX6_told_10 : decode cX6_told 10 = .ok (.ifCond .ne 5, 3) := by decide +kernel
theorem dX6_told_13 : decode cX6_told 13 = .ok (.iconst (-1), 1) := by decide +kernel
theorem dX6_told_14 : decode cX6_told 14 = .ok (.ireturn, 1) := by decide +kernel
theorem dX6_told_15 : decode cX6_told 15 = .ok (.iload_n 2, 1) := by decide +kernel
theorem dX6_told_16 : decode cX6_told 16 = .ok (.tableswitch 172 0 11 #[64, 71, 78, 85, 92, 99, 106, 113, 119, 139, 145, 152], 64) := by decide +kernel
theorem dX6_told_80 : decode cX6_told 80 = .ok (.aload_n 0, 1) := by decide +kernel
theorem dX6_told_81 : decode cX6_told 81 = .ok (.getfield 16, 3) := by decide +kernel
theorem dX6_told_84 : decode cX6_told 84 = .ok (.iload_n 1, 1) := by decide +kernel
theorem dX6_told_85 : decode cX6_told 85 = .ok (.iaload, 1) := by decide +kernel
theorem dX6_told_86 : decode cX6_told 86 = .ok (.ireturn, 1) := by decide +kernel
theorem dX6_told_87 : decode cX6_told 87 = .ok (.aload_n 0, 1) := by decide +kernel
theorem dX6_told_88 : decode cX6_told 88 = .ok (.getfield 20, 3) := by decide +kernel
theorem dX6_told_91 : decode cX6_told 91 = .ok (.iload_n 1, 1) := by decide +kernel
theorem dX6_told_92 : decode cX6_told 92 = .ok (.iaload, 1) := by decide +kernel
theorem dX6_told_93 : decode cX6_told 93 = .ok (.ireturn, 1) := by decide +kernel
theorem dX6_told_94 : decode cX6_told 94 = .ok (.aload_n 0, 1) := by decide +kernel
theorem dX6_told_95 : decode cX6_told 95 = .ok (.getfield 23, 3) := by decide +kernel
theorem dX6_told_98 : decode cX6_told 98 = .ok (.iload_n 1, 1) := by decide +kernel
theorem dX6_told_99 : decode cX6_told 99 = .ok (.iaload, 1) := by decide +kernel
theorem dX6_told_100 : decode cX6_told 100 = .ok (.ireturn, 1) := by decide +kernel
theorem dX6_told_101 : decode cX6_told 101 = .ok (.aload_n 0, 1) := by decide +kernel
theorem dX6_told_102 : decode cX6_told 102 = .ok (.getfield 26, 3) := by decide +kernel
theorem dX6_told_105 : decode cX6_told 105 = .ok (.iload_n 1, 1) := by decide +kernel
theorem dX6_told_106 : decode cX6_told 106 = .ok (.iaload, 1) := by decide +kernel
theorem dX6_told_107 : decode cX6_told 107 = .ok (.ireturn, 1) := by decide +kernel
theorem dX6_told_108 : decode cX6_told 108 = .ok (.aload_n 0, 1) := by decide +kernel
theorem dX6_told_109 : decode cX6_told 109 = .ok (.getfield 29, 3) := by decide +kernel
theorem dX6_told_112 : decode cX6_told 112 = .ok (.iload_n 1, 1) := by decide +kernel
theorem dX6_told_113 : decode cX6_told 113 = .ok (.iaload, 1) := by decide +kernel
theorem dX6_told_114 : decode cX6_told 114 = .ok (.ireturn, 1) := by decide +kernel
theorem dX6_told_115 : decode cX6_told 115 = .ok (.aload_n 0, 1) := by decide +kernel
theorem dX6_told_116 : decode cX6_told 116 = .ok (.getfield 35, 3) := by decide +kernel
theorem dX6_told_119 : decode cX6_told 119 = .ok (.iload_n 1, 1) := by decide +kernel
theorem dX6_told_120 : decode cX6_told 120 = .ok (.iaload, 1) := by decide +kernel
theorem dX6_told_121 : decode cX6_told 121 = .ok (.ireturn, 1) := by decide +kernel
theorem dX6_told_122 : decode cX6_told 122 = .ok (.aload_n 0, 1) := by decide +kernel
theorem dX6_told_123 : decode cX6_told 123 = .ok (.getfield 32, 3) := by decide +kernel
theorem dX6_told_126 : decode cX6_told 126 = .ok (.iload_n 1, 1) := by decide +kernel
theorem dX6_told_127 : decode cX6_told 127 = .ok (.iaload, 1) := by decide +kernel
theorem dX6_told_128 : decode cX6_told 128 = .ok (.ireturn, 1) := by decide +kernel
theorem dX6_told_129 : decode cX6_told 129 = .ok (.aload_n 0, 1) := by decide +kernel
theorem dX6_told_130 : decode cX6_told 130 = .ok (.iload_n 1, 1) := by decide +kernel
theorem dX6_told_131 : decode cX6_told 131 = .ok (.invokevirtual 208, 3) := by decide +kernel
theorem dX6_told_134 : decode cX6_told 134 = .ok (.ireturn, 1) := by decide +kernel
theorem dX6_told_135 : decode cX6_told 135 = .ok (.aload_n 0, 1) := by decide +kernel
theorem dX6_told_136 : decode cX6_told 136 = .ok (.getfield 35, 3) := by decide +kernel
theorem dX6_told_139 : decode cX6_told 139 = .ok (.iload_n 1, 1) := by decide +kernel
theorem dX6_told_140 : decode cX6_told 140 = .ok (.iaload, 1) := by decide +kernel
theorem dX6_told_141 : decode cX6_told 141 = .ok (.ifCond .ne 7, 3) := by decide +kernel
theorem dX6_told_144 : decode cX6_told 144 = .ok (.iconst 0, 1) := by decide +kernel
theorem dX6_told_145 : decode cX6_told 145 = .ok (.goto 9, 3) := by decide +kernel
theorem dX6_told_148 : decode cX6_told 148 = .ok (.aload_n 0, 1) := by decide +kernel
theorem dX6_told_149 : decode cX6_told 149 = .ok (.getfield 41, 3) := by decide +kernel
theorem dX6_told_152 : decode cX6_told 152 = .ok (.iload_n 1, 1) := by decide +kernel
theorem dX6_told_153 : decode cX6_told 153 = .ok (.iaload, 1) := by decide +kernel
theorem dX6_told_154 : decode cX6_told 154 = .ok (.ireturn, 1) := by decide +kernel
theorem dX6_told_155 : decode cX6_told 155 = .ok (.aload_n 0, 1) := by decide +kernel
theorem dX6_told_156 : decode cX6_told 156 = .ok (.iload_n 1, 1) := by decide +kernel
theorem dX6_told_157 : decode cX6_told 157 = .ok (.invokevirtual 211, 3) := by decide +kernel
theorem dX6_told_160 : decode cX6_told 160 = .ok (.ireturn, 1) := by decide +kernel
theorem dX6_told_161 : decode cX6_told 161 = .ok (.aload_n 0, 1) := by decide +kernel
theorem dX6_told_162 : decode cX6_told 162 = .ok (.getfield 47, 3) := by decide +kernel
theorem dX6_told_165 : decode cX6_told 165 = .ok (.iload_n 1, 1) := by decide +kernel
theorem dX6_told_166 : decode cX6_told 166 = .ok (.iaload, 1) := by decide +kernel
theorem dX6_told_167 : decode cX6_told 167 = .ok (.ireturn, 1) := by decide +kernel
theorem dX6_told_168 : decode cX6_told 168 = .ok (.aload_n 0, 1) := by decide +kernel
theorem dX6_told_169 : decode cX6_told 169 = .ok (.getfield 35, 3) := by decide +kernel
theorem dX6_told_172 : decode cX6_told 172 = .ok (.iload_n 1, 1) := by decide +kernel
theorem dX6_told_173 : decode cX6_told 173 = .ok (.iaload, 1) := by decide +kernel
theorem dX6_told_174 : decode cX6_told 174 = .ok (.ifCond .ne 7, 3) := by decide +kernel
theorem dX6_told_177 : decode cX6_told 177 = .ok (.iconst (-1), 1) := by decide +kernel
theorem dX6_told_178 : decode cX6_told 178 = .ok (.goto 9, 3) := by decide +kernel
theorem dX6_told_181 : decode cX6_told 181 = .ok (.aload_n 0, 1) := by decide +kernel
theorem dX6_told_182 : decode cX6_told 182 = .ok (.getfield 38, 3) := by decide +kernel
theorem dX6_told_185 : decode cX6_told 185 = .ok (.iload_n 1, 1) := by decide +kernel
theorem dX6_told_186 : decode cX6_told 186 = .ok (.iaload, 1) := by decide +kernel
theorem dX6_told_187 : decode cX6_told 187 = .ok (.ireturn, 1) := by decide +kernel
theorem dX6_told_188 : decode cX6_told 188 = .ok (.iconst (-1), 1) := by decide +kernel
theorem dX6_told_189 : decode cX6_told 189 = .ok (.ireturn, 1) := by decide +kernel
set_option maxRecDepth 20000 in
theorem dX6_has_0 : decode cX6_has 0 = .ok (.aload_n 0, 1) := by decide +kernel
theorem dX6_has_1 : decode cX6_has 1 = .ok (.iconst 0, 1) := by decide +kernel
theorem dX6_has_2 : decode cX6_has 2 = .ok (.putfield 120, 3) := by decide +kernel
theorem dX6_has_5 : decode cX6_has 5 = .ok (.aload_n 0, 1) := by decide +kernel
theorem dX6_has_6 : decode cX6_has 6 = .ok (.iload_n 1, 1) := by decide +kernel
theorem dX6_has_7 : decode cX6_has 7 = .ok (.iload_n 2, 1) := by decide +kernel
theorem dX6_has_8 : decode cX6_has 8 = .ok (.invokevirtual 195, 3) := by decide +kernel
theorem dX6_has_11 : decode cX6_has 11 = .ok (.ifCond .eq 17, 3) := by decide +kernel
theorem dX6_has_14 : decode cX6_has 14 = .ok (.aload_n 0, 1) := by decide +kernel
theorem dX6_has_15 : decode cX6_has 15 = .ok (.getfield 63, 3) := by decide +kernel
theorem dX6_has_18 : decode cX6_has 18 = .ok (.bipush 10, 2) := by decide +kernel
theorem dX6_has_20 : decode cX6_has 20 = .ok (.iload_n 2, 1) := by decide +kernel
theorem dX6_has_21 : decode cX6_has 21 = .ok (.imul, 1) := by decide +kernel
theorem dX6_has_22 : decode cX6_has 22 = .ok (.iload_n 1, 1) := by decide +kernel
theorem dX6_has_23 : decode cX6_has 23 = .ok (.iadd, 1) := by decide +kernel
theorem dX6_has_24 : decode cX6_has 24 = .ok (.iaload, 1) := by decide +kernel
theorem dX6_has_25 : decode cX6_has 25 = .ok (.goto 4, 3) := by decide +kernel
theorem dX6_has_28 : decode cX6_has 28 = .ok (.iconst (-1), 1) := by decide +kernel
theorem dX6_has_29 : decode cX6_has 29 = .ok (.ireturn, 1) := by decide +kernel
set_option maxRecDepth 20000 in
theorem dX6_good_0 : decode cX6_good 0 = .ok (.aload_n 0, 1) := by decide +kernel
theorem dX6_good_1 : decode cX6_good 1 = .ok (.iconst 0, 1) := by decide +kernel
theorem dX6_good_2 : decode cX6_good 2 = .ok (.putfield 120, 3) := by decide +kernel
theorem dX6_good_5 : decode cX6_good 5 = .ok (.aload_n 0, 1) := by decide +kernel
theorem dX6_good_6 : decode cX6_good 6 = .ok (.iload_n 1, 1) := by decide +kernel
theorem dX6_good_7 : decode cX6_good 7 = .ok (.iload_n 2, 1) := by decide +kernel
theorem dX6_good_8 : decode cX6_good 8 = .ok (.invokevirtual 198, 3) := by decide +kernel
theorem dX6_good_11 : decode cX6_good 11 = .ok (.ifCond .ne 5, 3) := by decide +kernel
theorem dX6_good_14 : decode cX6_good 14 = .ok (.iconst (-1), 1) := by decide +kernel
theorem dX6_good_15 : decode cX6_good 15 = .ok (.ireturn, 1) := by decide +kernel
theorem dX6_good_16 : decode cX6_good 16 = .ok (.iload_n 3, 1) := by decide +kernel
theorem dX6_good_17 : decode cX6_good 17 = .ok (.ifCond .lt 17, 3) := by decide +kernel
theorem dX6_good_20 : decode cX6_good 20 = .ok (.aload_n 0, 1) := by decide +kernel
theorem dX6_good_21 : decode cX6_good 21 = .ok (.iload_n 2, 1) := by decide +kernel
theorem dX6_good_22 : decode cX6_good 22 = .ok (.iload_n 1, 1) := by decide +kernel
theorem dX6_good_23 : decode cX6_good 23 = .ok (.iload_n 3, 1) := by decide +kernel
theorem dX6_good_24 : decode cX6_good 24 = .ok (.invokevirtual 186, 3) := by decide +kernel
theorem dX6_good_27 : decode cX6_good 27 = .ok (.ifCond .eq 7, 3) := by decide +kernel
theorem dX6_good_30 : decode cX6_good 30 = .ok (.iconst 1, 1) := by decide +kernel
theorem dX6_good_31 : decode cX6_good 31 = .ok (.goto 4, 3) := by decide +kernel
theorem dX6_good_34 : decode cX6_good 34 = .ok (.iconst 0, 1) := by decide +kernel
theorem dX6_good_35 : decode cX6_good 35 = .ok (.ireturn, 1) := by decide +kernel
set_option maxRecDepth 20000 in
theorem dX6_turned_0 : decode cX6_turned 0 = .ok (.aload_n 0, 1) := by decide +kernel
theorem dX6_turned_1 : decode cX6_turned 1 = .ok (.iload_n 1, 1) := by decide +kernel
theorem dX6_turned_2 : decode cX6_turned 2 = .ok (.ifCond .lt 27, 3) := by decide +kernel
theorem dX6_turned_5 : decode cX6_turned 5 = .ok (.iload_n 1, 1) := by decide +kernel
theorem dX6_turned_6 : decode cX6_turned 6 = .ok (.aload_n 0, 1) := by decide +kernel
theorem dX6_turned_7 : decode cX6_turned 7 = .ok (.getfield 179, 3) := by decide +kernel
theorem dX6_turned_10 : decode cX6_turned 10 = .ok (.if_icmp .ge 19, 3) := by decide +kernel
theorem dX6_turned_13 : decode cX6_turned 13 = .ok (.iload_n 1, 1) := by decide +kernel
theorem dX6_turned_14 : decode cX6_turned 14 = .ok (.sipush 500, 3) := by decide +kernel
theorem dX6_turned_17 : decode cX6_turned 17 = .ok (.if_icmp .ge 12, 3) := by decide +kernel
theorem dX6_turned_20 : decode cX6_turned 20 = .ok (.iload_n 2, 1) := by decide +kernel
theorem dX6_turned_21 : decode cX6_turned 21 = .ok (.iconst 0, 1) := by decide +kernel
theorem dX6_turned_22 : decode cX6_turned 22 = .ok (.iconst 4, 1) := by decide +kernel
theorem dX6_turned_23 : decode cX6_turned 23 = .ok (.invokestatic 126, 3) := by decide +kernel
theorem dX6_turned_26 : decode cX6_turned 26 = .ok (.ifCond .ne 7, 3) := by decide +kernel
theorem dX6_turned_29 : decode cX6_turned 29 = .ok (.iconst 1, 1) := by decide +kernel
theorem dX6_turned_30 : decode cX6_turned 30 = .ok (.goto 4, 3) := by decide +kernel
theorem dX6_turned_33 : decode cX6_turned 33 = .ok (.iconst 0, 1) := by decide +kernel
theorem dX6_turned_34 : decode cX6_turned 34 = .ok (.putfield 120, 3) := by decide +kernel
theorem dX6_turned_37 : decode cX6_turned 37 = .ok (.aload_n 0, 1) := by decide +kernel
theorem dX6_turned_38 : decode cX6_turned 38 = .ok (.getfield 120, 3) := by decide +kernel
theorem dX6_turned_41 : decode cX6_turned 41 = .ok (.ifCond .le 5, 3) := by decide +kernel
theorem dX6_turned_44 : decode cX6_turned 44 = .ok (.iconst 0, 1) := by decide +kernel
theorem dX6_turned_45 : decode cX6_turned 45 = .ok (.ireturn, 1) := by decide +kernel
theorem dX6_turned_46 : decode cX6_turned 46 = .ok (.iload_n 2, 1) := by decide +kernel
theorem dX6_turned_47 : decode cX6_turned 47 = .ok (.tableswitch 57 0 3 #[29, 36, 43, 50], 29) := by decide +kernel
theorem dX6_turned_76 : decode cX6_turned 76 = .ok (.aload_n 0, 1) := by decide +kernel
theorem dX6_turned_77 : decode cX6_turned 77 = .ok (.getfield 99, 3) := by decide +kernel
theorem dX6_turned_80 : decode cX6_turned 80 = .ok (.iload_n 1, 1) := by decide +kernel
theorem dX6_turned_81 : decode cX6_turned 81 = .ok (.iaload, 1) := by decide +kernel
theorem dX6_turned_82 : decode cX6_turned 82 = .ok (.ireturn, 1) := by decide +kernel
theorem dX6_turned_83 : decode cX6_turned 83 = .ok (.aload_n 0, 1) := by decide +kernel
theorem dX6_turned_84 : decode cX6_turned 84 = .ok (.getfield 102, 3) := by decide +kernel
theorem dX6_turned_87 : decode cX6_turned 87 = .ok (.iload_n 1, 1) := by decide +kernel
theorem dX6_turned_88 : decode cX6_turned 88 = .ok (.iaload, 1) := by decide +kernel
theorem dX6_turned_89 : decode cX6_turned 89 = .ok (.ireturn, 1) := by decide +kernel
theorem dX6_turned_90 : decode cX6_turned 90 = .ok (.aload_n 0, 1) := by decide +kernel
theorem dX6_turned_91 : decode cX6_turned 91 = .ok (.getfield 105, 3) := by decide +kernel
theorem dX6_turned_94 : decode cX6_turned 94 = .ok (.iload_n 1, 1) := by decide +kernel
theorem dX6_turned_95 : decode cX6_turned 95 = .ok (.iaload, 1) := by decide +kernel
theorem dX6_turned_96 : decode cX6_turned 96 = .ok (.ireturn, 1) := by decide +kernel
theorem dX6_turned_97 : decode cX6_turned 97 = .ok (.aload_n 0, 1) := by decide +kernel
theorem dX6_turned_98 : decode cX6_turned 98 = .ok (.getfield 108, 3) := by decide +kernel
theorem dX6_turned_101 : decode cX6_turned 101 = .ok (.iload_n 1, 1) := by decide +kernel
theorem dX6_turned_102 : decode cX6_turned 102 = .ok (.iaload, 1) := by decide +kernel
theorem dX6_turned_103 : decode cX6_turned 103 = .ok (.ireturn, 1) := by decide +kernel
theorem dX6_turned_104 : decode cX6_turned 104 = .ok (.aload_n 0, 1) := by decide +kernel
theorem dX6_turned_105 : decode cX6_turned 105 = .ok (.getfield 111, 3) := by decide +kernel
theorem dX6_turned_108 : decode cX6_turned 108 = .ok (.iload_n 1, 1) := by decide +kernel
theorem dX6_turned_109 : decode cX6_turned 109 = .ok (.baload, 1) := by decide +kernel
theorem dX6_turned_110 : decode cX6_turned 110 = .ok (.ifCond .eq 7, 3) := by decide +kernel
theorem dX6_turned_113 : decode cX6_turned 113 = .ok (.iconst 1, 1) := by decide +kernel
theorem dX6_turned_114 : decode cX6_turned 114 = .ok (.goto 4, 3) := by decide +kernel
theorem dX6_turned_117 : decode cX6_turned 117 = .ok (.iconst 0, 1) := by decide +kernel
theorem dX6_turned_118 : decode cX6_turned 118 = .ok (.ireturn, 1) := by decide +kernel
set_option maxRecDepth 20000 in
theorem dX6_count_0 : decode cX6_count 0 = .ok (.aload_n 0, 1) := by decide +kernel
theorem dX6_count_1 : decode cX6_count 1 = .ok (.iconst 0, 1) := by decide +kernel
theorem dX6_count_2 : decode cX6_count 2 = .ok (.putfield 120, 3) := by decide +kernel
theorem dX6_count_5 : decode cX6_count 5 = .ok (.iconst 0, 1) := by decide +kernel
theorem dX6_count_6 : decode cX6_count 6 = .ok (.istore_n 2, 1) := by decide +kernel
theorem dX6_count_7 : decode cX6_count 7 = .ok (.iload_n 1, 1) := by decide +kernel
theorem dX6_count_8 : decode cX6_count 8 = .ok (.tableswitch 153 0 7 #[48, 53, 58, 63, 98, 103, 108, 113], 48) := by decide +kernel
theorem dX6_count_56 : decode cX6_count 56 = .ok (.aload_n 0, 1) := by decide +kernel
theorem dX6_count_57 : decode cX6_count 57 = .ok (.getfield 130, 3) := by decide +kernel
theorem dX6_count_60 : decode cX6_count 60 = .ok (.ireturn, 1) := by decide +kernel
theorem dX6_count_61 : decode cX6_count 61 = .ok (.aload_n 0, 1) := by decide +kernel
theorem dX6_count_62 : decode cX6_count 62 = .ok (.getfield 123, 3) := by decide +kernel
theorem dX6_count_65 : decode cX6_count 65 = .ok (.ireturn, 1) := by decide +kernel
theorem dX6_count_66 : decode cX6_count 66 = .ok (.aload_n 0, 1) := by decide +kernel
theorem dX6_count_67 : decode cX6_count 67 = .ok (.getfield 179, 3) := by decide +kernel
theorem dX6_count_70 : decode cX6_count 70 = .ok (.ireturn, 1) := by decide +kernel
theorem dX6_count_71 : decode cX6_count 71 = .ok (.iconst 0, 1) := by decide +kernel
theorem dX6_count_72 : decode cX6_count 72 = .ok (.istore_n 3, 1) := by decide +kernel
theorem dX6_count_73 : decode cX6_count 73 = .ok (.iload_n 3, 1) := by decide +kernel
theorem dX6_count_74 : decode cX6_count 74 = .ok (.aload_n 0, 1) := by decide +kernel
theorem dX6_count_75 : decode cX6_count 75 = .ok (.getfield 123, 3) := by decide +kernel
theorem dX6_count_78 : decode cX6_count 78 = .ok (.if_icmp .ge 26, 3) := by decide +kernel
theorem dX6_count_81 : decode cX6_count 81 = .ok (.iload_n 2, 1) := by decide +kernel
theorem dX6_count_82 : decode cX6_count 82 = .ok (.aload_n 0, 1) := by decide +kernel
theorem dX6_count_83 : decode cX6_count 83 = .ok (.getfield 35, 3) := by decide +kernel
theorem dX6_count_86 : decode cX6_count 86 = .ok (.iload_n 3, 1) := by decide +kernel
theorem dX6_count_87 : decode cX6_count 87 = .ok (.iaload, 1) := by decide +kernel
theorem dX6_count_88 : decode cX6_count 88 = .ok (.ifCond .eq 7, 3) := by decide +kernel
theorem dX6_count_91 : decode cX6_count 91 = .ok (.iconst 1, 1) := by decide +kernel
theorem dX6_count_92 : decode cX6_count 92 = .ok (.goto 4, 3) := by decide +kernel
theorem dX6_count_95 : decode cX6_count 95 = .ok (.iconst 0, 1) := by decide +kernel
theorem dX6_count_96 : decode cX6_count 96 = .ok (.iadd, 1) := by decide +kernel
theorem dX6_count_97 : decode cX6_count 97 = .ok (.istore_n 2, 1) := by decide +kernel
theorem dX6_count_98 : decode cX6_count 98 = .ok (.iinc 3 1, 3) := by decide +kernel
theorem dX6_count_101 : decode cX6_count 101 = .ok (.goto (-28), 3) := by decide +kernel
theorem dX6_count_104 : decode cX6_count 104 = .ok (.iload_n 2, 1) := by decide +kernel
theorem dX6_count_105 : decode cX6_count 105 = .ok (.ireturn, 1) := by decide +kernel
theorem dX6_count_106 : decode cX6_count 106 = .ok (.aload_n 0, 1) := by decide +kernel
theorem dX6_count_107 : decode cX6_count 107 = .ok (.getfield 141, 3) := by decide +kernel
theorem dX6_count_110 : decode cX6_count 110 = .ok (.ireturn, 1) := by decide +kernel
theorem dX6_count_111 : decode cX6_count 111 = .ok (.aload_n 0, 1) := by decide +kernel
theorem dX6_count_112 : decode cX6_count 112 = .ok (.getfield 192, 3) := by decide +kernel
theorem dX6_count_115 : decode cX6_count 115 = .ok (.ireturn, 1) := by decide +kernel
theorem dX6_count_116 : decode cX6_count 116 = .ok (.aload_n 0, 1) := by decide +kernel
theorem dX6_count_117 : decode cX6_count 117 = .ok (.getfield 189, 3) := by decide +kernel
theorem dX6_count_120 : decode cX6_count 120 = .ok (.ireturn, 1) := by decide +kernel
theorem dX6_count_121 : decode cX6_count 121 = .ok (.iconst 0, 1) := by decide +kernel
theorem dX6_count_122 : decode cX6_count 122 = .ok (.istore_n 3, 1) := by decide +kernel
theorem dX6_count_123 : decode cX6_count 123 = .ok (.iload_n 3, 1) := by decide +kernel
theorem dX6_count_124 : decode cX6_count 124 = .ok (.aload_n 0, 1) := by decide +kernel
theorem dX6_count_125 : decode cX6_count 125 = .ok (.getfield 123, 3) := by decide +kernel
theorem dX6_count_128 : decode cX6_count 128 = .ok (.if_icmp .ge 31, 3) := by decide +kernel
theorem dX6_count_131 : decode cX6_count 131 = .ok (.iload_n 2, 1) := by decide +kernel
theorem dX6_count_132 : decode cX6_count 132 = .ok (.aload_n 0, 1) := by decide +kernel
theorem dX6_count_133 : decode cX6_count 133 = .ok (.iload_n 3, 1) := by decide +kernel
theorem dX6_count_134 : decode cX6_count 134 = .ok (.invokevirtual 208, 3) := by decide +kernel
theorem dX6_count_137 : decode cX6_count 137 = .ok (.aload_n 0, 1) := by decide +kernel
theorem dX6_count_138 : decode cX6_count 138 = .ok (.getfield 26, 3) := by decide +kernel
theorem dX6_count_141 : decode cX6_count 141 = .ok (.iload_n 3, 1) := by decide +kernel
theorem dX6_count_142 : decode cX6_count 142 = .ok (.iaload, 1) := by decide +kernel
theorem dX6_count_143 : decode cX6_count 143 = .ok (.if_icmp .le 7, 3) := by decide +kernel
theorem dX6_count_146 : decode cX6_count 146 = .ok (.iconst 1, 1) := by decide +kernel
theorem dX6_count_147 : decode cX6_count 147 = .ok (.goto 4, 3) := by decide +kernel
theorem dX6_count_150 : decode cX6_count 150 = .ok (.iconst 0, 1) := by decide +kernel
theorem dX6_count_151 : decode cX6_count 151 = .ok (.iadd, 1) := by decide +kernel
theorem dX6_count_152 : decode cX6_count 152 = .ok (.istore_n 2, 1) := by decide +kernel
theorem dX6_count_153 : decode cX6_count 153 = .ok (.iinc 3 1, 3) := by decide +kernel
theorem dX6_count_156 : decode cX6_count 156 = .ok (.goto (-33), 3) := by decide +kernel
theorem dX6_count_159 : decode cX6_count 159 = .ok (.iload_n 2, 1) := by decide +kernel
theorem dX6_count_160 : decode cX6_count 160 = .ok (.ireturn, 1) := by decide +kernel
theorem dX6_count_161 : decode cX6_count 161 = .ok (.iconst (-1), 1) := by decide +kernel
theorem dX6_count_162 : decode cX6_count 162 = .ok (.ireturn, 1) := by decide +kernel
theorem dJ6_bitCount_0f7a4_0 : decode cJ6_bitCount_0f7a4 0 = .ok (.iload_n 0, 1) := by decide +kernel
theorem dJ6_bitCount_0f7a4_1 : decode cJ6_bitCount_0f7a4 1 = .ok (.iload_n 0, 1) := by decide +kernel
theorem dJ6_bitCount_0f7a4_2 : decode cJ6_bitCount_0f7a4 2 = .ok (.iconst 1, 1) := by decide +kernel
theorem dJ6_bitCount_0f7a4_3 : decode cJ6_bitCount_0f7a4 3 = .ok (.iushr, 1) := by decide +kernel
theorem dJ6_bitCount_0f7a4_4 : decode cJ6_bitCount_0f7a4 4 = .ok (.ldc_w 265, 3) := by decide +kernel
theorem dJ6_bitCount_0f7a4_7 : decode cJ6_bitCount_0f7a4 7 = .ok (.iand, 1) := by decide +kernel
theorem dJ6_bitCount_0f7a4_8 : decode cJ6_bitCount_0f7a4 8 = .ok (.isub, 1) := by decide +kernel
theorem dJ6_bitCount_0f7a4_9 : decode cJ6_bitCount_0f7a4 9 = .ok (.istore_n 0, 1) := by decide +kernel
theorem dJ6_bitCount_0f7a4_10 : decode cJ6_bitCount_0f7a4 10 = .ok (.iload_n 0, 1) := by decide +kernel
theorem dJ6_bitCount_0f7a4_11 : decode cJ6_bitCount_0f7a4 11 = .ok (.ldc_w 266, 3) := by decide +kernel
theorem dJ6_bitCount_0f7a4_14 : decode cJ6_bitCount_0f7a4 14 = .ok (.iand, 1) := by decide +kernel
theorem dJ6_bitCount_0f7a4_15 : decode cJ6_bitCount_0f7a4 15 = .ok (.iload_n 0, 1) := by decide +kernel
theorem dJ6_bitCount_0f7a4_16 : decode cJ6_bitCount_0f7a4 16 = .ok (.iconst 2, 1) := by decide +kernel
theorem dJ6_bitCount_0f7a4_17 : decode cJ6_bitCount_0f7a4 17 = .ok (.iushr, 1) := by decide +kernel
theorem dJ6_bitCount_0f7a4_18 : decode cJ6_bitCount_0f7a4 18 = .ok (.ldc_w 266, 3) := by decide +kernel
theorem dJ6_bitCount_0f7a4_21 : decode cJ6_bitCount_0f7a4 21 = .ok (.iand, 1) := by decide +kernel
theorem dJ6_bitCount_0f7a4_22 : decode cJ6_bitCount_0f7a4 22 = .ok (.iadd, 1) := by decide +kernel
theorem dJ6_bitCount_0f7a4_23 : decode cJ6_bitCount_0f7a4 23 = .ok (.istore_n 0, 1) := by decide +kernel
theorem dJ6_bitCount_0f7a4_24 : decode cJ6_bitCount_0f7a4 24 = .ok (.iload_n 0, 1) := by decide +kernel
theorem dJ6_bitCount_0f7a4_25 : decode cJ6_bitCount_0f7a4 25 = .ok (.iload_n 0, 1) := by decide +kernel
theorem dJ6_bitCount_0f7a4_26 : decode cJ6_bitCount_0f7a4 26 = .ok (.iconst 4, 1) := by decide +kernel
theorem dJ6_bitCount_0f7a4_27 : decode cJ6_bitCount_0f7a4 27 = .ok (.iushr, 1) := by decide +kernel
theorem dJ6_bitCount_0f7a4_28 : decode cJ6_bitCount_0f7a4 28 = .ok (.iadd, 1) := by decide +kernel
theorem dJ6_bitCount_0f7a4_29 : decode cJ6_bitCount_0f7a4 29 = .ok (.ldc_w 267, 3) := by decide +kernel
theorem dJ6_bitCount_0f7a4_32 : decode cJ6_bitCount_0f7a4 32 = .ok (.iand, 1) := by decide +kernel
theorem dJ6_bitCount_0f7a4_33 : decode cJ6_bitCount_0f7a4 33 = .ok (.istore_n 0, 1) := by decide +kernel
theorem dJ6_bitCount_0f7a4_34 : decode cJ6_bitCount_0f7a4 34 = .ok (.iload_n 0, 1) := by decide +kernel
theorem dJ6_bitCount_0f7a4_35 : decode cJ6_bitCount_0f7a4 35 = .ok (.iload_n 0, 1) := by decide +kernel
theorem dJ6_bitCount_0f7a4_36 : decode cJ6_bitCount_0f7a4 36 = .ok (.bipush 8, 2) := by decide +kernel
theorem dJ6_bitCount_0f7a4_38 : decode cJ6_bitCount_0f7a4 38 = .ok (.iushr, 1) := by decide +kernel
theorem dJ6_bitCount_0f7a4_39 : decode cJ6_bitCount_0f7a4 39 = .ok (.iadd, 1) := by decide +kernel
theorem dJ6_bitCount_0f7a4_40 : decode cJ6_bitCount_0f7a4 40 = .ok (.istore_n 0, 1) := by decide +kernel
theorem dJ6_bitCount_0f7a4_41 : decode cJ6_bitCount_0f7a4 41 = .ok (.iload_n 0, 1) := by decide +kernel
theorem dJ6_bitCount_0f7a4_42 : decode cJ6_bitCount_0f7a4 42 = .ok (.iload_n 0, 1) := by decide +kernel
theorem dJ6_bitCount_0f7a4_43 : decode cJ6_bitCount_0f7a4 43 = .ok (.bipush 16, 2) := by decide +kernel
theorem dJ6_bitCount_0f7a4_45 : decode cJ6_bitCount_0f7a4 45 = .ok (.iushr, 1) := by decide +kernel
theorem dJ6_bitCount_0f7a4_46 : decode cJ6_bitCount_0f7a4 46 = .ok (.iadd, 1) := by decide +kernel
theorem dJ6_bitCount_0f7a4_47 : decode cJ6_bitCount_0f7a4 47 = .ok (.istore_n 0, 1) := by decide +kernel
theorem dJ6_bitCount_0f7a4_48 : decode cJ6_bitCount_0f7a4 48 = .ok (.iload_n 0, 1) := by decide +kernel
theorem dJ6_bitCount_0f7a4_49 : decode cJ6_bitCount_0f7a4 49 = .ok (.bipush 63, 2) := by decide +kernel
theorem dJ6_bitCount_0f7a4_51 : decode cJ6_bitCount_0f7a4 51 = .ok (.iand, 1) := by decide +kernel
theorem dJ6_bitCount_0f7a4_52 : decode cJ6_bitCount_0f7a4 52 = .ok (.ireturn, 1) := by decide +kernel
theorem dJ9_max_7cf53_0 : decode cJ9_max_7cf53 0 = .ok (.iload_n 0, 1) := by decide +kernel
theorem dJ9_max_7cf53_1 : decode cJ9_max_7cf53 1 = .ok (.iload_n 1, 1) := by decide +kernel
theorem dJ9_max_7cf53_2 : decode cJ9_max_7cf53 2 = .ok (.if_icmp .lt 7, 3) := by decide +kernel
theorem dJ9_max_7cf53_5 : decode cJ9_max_7cf53 5 = .ok (.iload_n 0, 1) := by decide +kernel
theorem dJ9_max_7cf53_6 : decode cJ9_max_7cf53 6 = .ok (.goto 4, 3) := by decide +kernel
theorem dJ9_max_7cf53_9 : decode cJ9_max_7cf53 9 = .ok (.iload_n 1, 1) := by decide +kernel
theorem dJ9_max_7cf53_10 : decode cJ9_max_7cf53 10 = .ok (.ireturn, 1) := by decide +kernel
theorem dJ9_min_7cf53_0 : decode cJ9_min_7cf53 0 = .ok (.iload_n 0, 1) := by decide +kernel
theorem dJ9_min_7cf53_1 : decode cJ9_min_7cf53 1 = .ok (.iload_n 1, 1) := by decide +kernel
theorem dJ9_min_7cf53_2 : decode cJ9_min_7cf53 2 = .ok (.if_icmp .gt 7, 3) := by decide +kernel
theorem dJ9_min_7cf53_5 : decode cJ9_min_7cf53 5 = .ok (.iload_n 0, 1) := by decide +kernel
theorem dJ9_min_7cf53_6 : decode cJ9_min_7cf53 6 = .ok (.goto 4, 3) := by decide +kernel
theorem dJ9_min_7cf53_9 : decode cJ9_min_7cf53 9 = .ok (.iload_n 1, 1) := by decide +kernel
theorem dJ9_min_7cf53_10 : decode cJ9_min_7cf53 10 = .ok (.ireturn, 1) := by decide +kernel
set_option maxRecDepth 20000 in
theorem dL_turned_0 : decode cL_turned 0 = .ok (.aload_n 3, 1) := by decide +kernel
theorem dL_turned_1 : decode cL_turned 1 = .ok (.iconst 0, 1) := by decide +kernel
theorem dL_turned_2 : decode cL_turned 2 = .ok (.aload_n 0, 1) := by decide +kernel
theorem dL_turned_3 : decode cL_turned 3 = .ok (.iload_n 1, 1) := by decide +kernel
theorem dL_turned_4 : decode cL_turned 4 = .ok (.iload_n 2, 1) := by decide +kernel
theorem dL_turned_5 : decode cL_turned 5 = .ok (.invokevirtual 7, 3) := by decide +kernel
theorem dL_turned_8 : decode cL_turned 8 = .ok (.i2l, 1) := by decide +kernel
theorem dL_turned_9 : decode cL_turned 9 = .ok (.lastore, 1) := by decide +kernel
theorem dL_turned_10 : decode cL_turned 10 = .ok (.goto 7, 3) := by decide +kernel
theorem dL_turned_13 : decode cL_turned 13 = .ok (.astore 4, 2) := by decide +kernel
theorem dL_turned_15 : decode cL_turned 15 = .ok (.iconst 1, 1) := by decide +kernel
theorem dL_turned_16 : decode cL_turned 16 = .ok (.ireturn, 1) := by decide +kernel
theorem dL_turned_17 : decode cL_turned 17 = .ok (.iconst 0, 1) := by decide +kernel
theorem dL_turned_18 : decode cL_turned 18 = .ok (.ireturn, 1) := by decide +kernel
set_option maxRecDepth 20000 in
theorem dL_law_0 : decode cL_law 0 = .ok (.new 8, 3) := by decide +kernel
theorem dL_law_3 : decode cL_law 3 = .ok (.dup, 1) := by decide +kernel
theorem dL_law_4 : decode cL_law 4 = .ok (.invokespecial 15, 3) := by decide +kernel
theorem dL_law_7 : decode cL_law 7 = .ok (.astore_n 1, 1) := by decide +kernel
theorem dL_law_8 : decode cL_law 8 = .ok (.new 16, 3) := by decide +kernel
theorem dL_law_11 : decode cL_law 11 = .ok (.dup, 1) := by decide +kernel
theorem dL_law_12 : decode cL_law 12 = .ok (.invokespecial 18, 3) := by decide +kernel
theorem dL_law_15 : decode cL_law 15 = .ok (.astore_n 2, 1) := by decide +kernel
theorem dL_law_16 : decode cL_law 16 = .ok (.iconst 1, 1) := by decide +kernel
theorem dL_law_17 : decode cL_law 17 = .ok (.newarray .long, 2) := by decide +kernel
theorem dL_law_19 : decode cL_law 19 = .ok (.astore_n 3, 1) := by decide +kernel
theorem dL_law_20 : decode cL_law 20 = .ok (.iconst 0, 1) := by decide +kernel
theorem dL_law_21 : decode cL_law 21 = .ok (.istore 4, 2) := by decide +kernel
theorem dL_law_23 : decode cL_law 23 = .ok (.iload 4, 2) := by decide +kernel
theorem dL_law_25 : decode cL_law 25 = .ok (.aload_n 0, 1) := by decide +kernel
theorem dL_law_26 : decode cL_law 26 = .ok (.arraylength, 1) := by decide +kernel
theorem dL_law_27 : decode cL_law 27 = .ok (.iconst 5, 1) := by decide +kernel
theorem dL_law_28 : decode cL_law 28 = .ok (.isub, 1) := by decide +kernel
theorem dL_law_29 : decode cL_law 29 = .ok (.if_icmp .gt 785, 3) := by decide +kernel
theorem dL_law_32 : decode cL_law 32 = .ok (.aload_n 0, 1) := by decide +kernel
theorem dL_law_33 : decode cL_law 33 = .ok (.iload 4, 2) := by decide +kernel
theorem dL_law_35 : decode cL_law 35 = .ok (.iaload, 1) := by decide +kernel
theorem dL_law_36 : decode cL_law 36 = .ok (.bipush 31, 2) := by decide +kernel
theorem dL_law_38 : decode cL_law 38 = .ok (.iand, 1) := by decide +kernel
theorem dL_law_39 : decode cL_law 39 = .ok (.tableswitch 769 0 16 #[81, 142, 207, 244, 281, 334, 359, 384, 409, 458, 519, 556, 593, 642, 667, 704, 744], 81) := by decide +kernel
theorem dL_law_120 : decode cL_law 120 = .ok (.aload_n 1, 1) := by decide +kernel
theorem dL_law_121 : decode cL_law 121 = .ok (.aload_n 0, 1) := by decide +kernel
theorem dL_law_122 : decode cL_law 122 = .ok (.iload 4, 2) := by decide +kernel
theorem dL_law_124 : decode cL_law 124 = .ok (.iconst 1, 1) := by decide +kernel
theorem dL_law_125 : decode cL_law 125 = .ok (.iadd, 1) := by decide +kernel
theorem dL_law_126 : decode cL_law 126 = .ok (.iaload, 1) := by decide +kernel
theorem dL_law_127 : decode cL_law 127 = .ok (.aload_n 0, 1) := by decide +kernel
theorem dL_law_128 : decode cL_law 128 = .ok (.iload 4, 2) := by decide +kernel
theorem dL_law_130 : decode cL_law 130 = .ok (.iconst 2, 1) := by decide +kernel
theorem dL_law_131 : decode cL_law 131 = .ok (.iadd, 1) := by decide +kernel
theorem dL_law_132 : decode cL_law 132 = .ok (.iaload, 1) := by decide +kernel
theorem dL_law_133 : decode cL_law 133 = .ok (.aload_n 0, 1) := by decide +kernel
theorem dL_law_134 : decode cL_law 134 = .ok (.iload 4, 2) := by decide +kernel
theorem dL_law_136 : decode cL_law 136 = .ok (.iconst 3, 1) := by decide +kernel
theorem dL_law_137 : decode cL_law 137 = .ok (.iadd, 1) := by decide +kernel
theorem dL_law_138 : decode cL_law 138 = .ok (.iaload, 1) := by decide +kernel
theorem dL_law_139 : decode cL_law 139 = .ok (.aload_n 0, 1) := by decide +kernel
theorem dL_law_140 : decode cL_law 140 = .ok (.iload 4, 2) := by decide +kernel
theorem dL_law_142 : decode cL_law 142 = .ok (.iconst 4, 1) := by decide +kernel
theorem dL_law_143 : decode cL_law 143 = .ok (.iadd, 1) := by decide +kernel
theorem dL_law_144 : decode cL_law 144 = .ok (.iaload, 1) := by decide +kernel
theorem dL_law_145 : decode cL_law 145 = .ok (.invokevirtual 19, 3) := by decide +kernel
theorem dL_law_148 : decode cL_law 148 = .ok (.pop, 1) := by decide +kernel
theorem dL_law_149 : decode cL_law 149 = .ok (.aload_n 2, 1) := by decide +kernel
theorem dL_law_150 : decode cL_law 150 = .ok (.aload_n 0, 1) := by decide +kernel
theorem dL_law_151 : decode cL_law 151 = .ok (.iload 4, 2) := by decide +kernel
theorem dL_law_153 : decode cL_law 153 = .ok (.iconst 1, 1) := by decide +kernel
theorem dL_law_154 : decode cL_law 154 = .ok (.iadd, 1) := by decide +kernel
theorem dL_law_155 : decode cL_law 155 = .ok (.iaload, 1) := by decide +kernel
theorem dL_law_156 : decode cL_law 156 = .ok (.aload_n 0, 1) := by decide +kernel
theorem dL_law_157 : decode cL_law 157 = .ok (.iload 4, 2) := by decide +kernel
theorem dL_law_159 : decode cL_law 159 = .ok (.iconst 2, 1) := by decide +kernel
theorem dL_law_160 : decode cL_law 160 = .ok (.iadd, 1) := by decide +kernel
theorem dL_law_161 : decode cL_law 161 = .ok (.iaload, 1) := by decide +kernel
theorem dL_law_162 : decode cL_law 162 = .ok (.aload_n 0, 1) := by decide +kernel
theorem dL_law_163 : decode cL_law 163 = .ok (.iload 4, 2) := by decide +kernel
theorem dL_law_165 : decode cL_law 165 = .ok (.iconst 3, 1) := by decide +kernel
theorem dL_law_166 : decode cL_law 166 = .ok (.iadd, 1) := by decide +kernel
theorem dL_law_167 : decode cL_law 167 = .ok (.iaload, 1) := by decide +kernel
theorem dL_law_168 : decode cL_law 168 = .ok (.aload_n 0, 1) := by decide +kernel
theorem dL_law_169 : decode cL_law 169 = .ok (.iload 4, 2) := by decide +kernel
theorem dL_law_171 : decode cL_law 171 = .ok (.iconst 4, 1) := by decide +kernel
theorem dL_law_172 : decode cL_law 172 = .ok (.iadd, 1) := by decide +kernel
theorem dL_law_173 : decode cL_law 173 = .ok (.iaload, 1) := by decide +kernel
theorem dL_law_174 : decode cL_law 174 = .ok (.invokevirtual 23, 3) := by decide +kernel
theorem dL_law_177 : decode cL_law 177 = .ok (.pop, 1) := by decide +kernel
theorem dL_law_178 : decode cL_law 178 = .ok (.goto 630, 3) := by decide +kernel
theorem dL_law_181 : decode cL_law 181 = .ok (.aload_n 1, 1) := by decide +kernel
theorem dL_law_182 : decode cL_law 182 = .ok (.aload_n 0, 1) := by decide +kernel
theorem dL_law_183 : decode cL_law 183 = .ok (.iload 4, 2) := by decide +kernel
theorem dL_law_185 : decode cL_law 185 = .ok (.iconst 1, 1) := by decide +kernel
theorem dL_law_186 : decode cL_law 186 = .ok (.iadd, 1) := by decide +kernel
theorem dL_law_187 : decode cL_law 187 = .ok (.iaload, 1) := by decide +kernel
theorem dL_law_188 : decode cL_law 188 = .ok (.aload_n 0, 1) := by decide +kernel
theorem dL_law_189 : decode cL_law 189 = .ok (.iload 4, 2) := by decide +kernel
theorem dL_law_191 : decode cL_law 191 = .ok (.iconst 2, 1) := by decide +kernel
theorem dL_law_192 : decode cL_law 192 = .ok (.iadd, 1) := by decide +kernel
theorem dL_law_193 : decode cL_law 193 = .ok (.iaload, 1) := by decide +kernel
theorem dL_law_194 : decode cL_law 194 = .ok (.aload_n 0, 1) := by decide +kernel
theorem dL_law_195 : decode cL_law 195 = .ok (.iload 4, 2) := by decide +kernel
theorem dL_law_197 : decode cL_law 197 = .ok (.iconst 3, 1) := by decide +kernel
theorem dL_law_198 : decode cL_law 198 = .ok (.iadd, 1) := by decide +kernel
theorem dL_law_199 : decode cL_law 199 = .ok (.iaload, 1) := by decide +kernel
theorem dL_law_200 : decode cL_law 200 = .ok (.ifCond .eq 7, 3) := by decide +kernel
theorem dL_law_203 : decode cL_law 203 = .ok (.iconst 1, 1) := by decide +kernel
theorem dL_law_204 : decode cL_law 204 = .ok (.goto 4, 3) := by decide +kernel
theorem dL_law_207 : decode cL_law 207 = .ok (.iconst 0, 1) := by decide +kernel
theorem dL_law_208 : decode cL_law 208 = .ok (.invokevirtual 24, 3) := by decide +kernel
theorem dL_law_211 : decode cL_law 211 = .ok (.pop, 1) := by decide +kernel
theorem dL_law_212 : decode cL_law 212 = .ok (.aload_n 2, 1) := by decide +kernel
theorem dL_law_213 : decode cL_law 213 = .ok (.aload_n 0, 1) := by decide +kernel
theorem dL_law_214 : decode cL_law 214 = .ok (.iload 4, 2) := by decide +kernel
theorem dL_law_216 : decode cL_law 216 = .ok (.iconst 1, 1) := by decide +kernel
theorem dL_law_217 : decode cL_law 217 = .ok (.iadd, 1) := by decide +kernel
theorem dL_law_218 : decode cL_law 218 = .ok (.iaload, 1) := by decide +kernel
theorem dL_law_219 : decode cL_law 219 = .ok (.aload_n 0, 1) := by decide +kernel
theorem dL_law_220 : decode cL_law 220 = .ok (.iload 4, 2) := by decide +kernel
theorem dL_law_222 : decode cL_law 222 = .ok (.iconst 2, 1) := by decide +kernel
theorem dL_law_223 : decode cL_law 223 = .ok (.iadd, 1) := by decide +kernel
theorem dL_law_224 : decode cL_law 224 = .ok (.iaload, 1) := by decide +kernel
theorem dL_law_225 : decode cL_law 225 = .ok (.aload_n 0, 1) := by decide +kernel
theorem dL_law_226 : decode cL_law 226 = .ok (.iload 4, 2) := by decide +kernel
theorem dL_law_228 : decode cL_law 228 = .ok (.iconst 3, 1) := by decide +kernel
theorem dL_law_229 : decode cL_law 229 = .ok (.iadd, 1) := by decide +kernel
theorem dL_law_230 : decode cL_law 230 = .ok (.iaload, 1) := by decide +kernel
theorem dL_law_231 : decode cL_law 231 = .ok (.ifCond .eq 7, 3) := by decide +kernel
theorem dL_law_234 : decode cL_law 234 = .ok (.iconst 1, 1) := by decide +kernel
theorem dL_law_235 : decode cL_law 235 = .ok (.goto 4, 3) := by decide +kernel
theorem dL_law_238 : decode cL_law 238 = .ok (.iconst 0, 1) := by decide +kernel
theorem dL_law_239 : decode cL_law 239 = .ok (.invokevirtual 28, 3) := by decide +kernel
theorem dL_law_242 : decode cL_law 242 = .ok (.pop, 1) := by decide +kernel
theorem dL_law_243 : decode cL_law 243 = .ok (.goto 565, 3) := by decide +kernel
theorem dL_law_246 : decode cL_law 246 = .ok (.aload_n 1, 1) := by decide +kernel
theorem dL_law_247 : decode cL_law 247 = .ok (.aload_n 0, 1) := by decide +kernel
theorem dL_law_248 : decode cL_law 248 = .ok (.iload 4, 2) := by decide +kernel
theorem dL_law_250 : decode cL_law 250 = .ok (.iconst 1, 1) := by decide +kernel
theorem dL_law_251 : decode cL_law 251 = .ok (.iadd, 1) := by decide +kernel
theorem dL_law_252 : decode cL_law 252 = .ok (.iaload, 1) := by decide +kernel
theorem dL_law_253 : decode cL_law 253 = .ok (.aload_n 0, 1) := by decide +kernel
theorem dL_law_254 : decode cL_law 254 = .ok (.iload 4, 2) := by decide +kernel
theorem dL_law_256 : decode cL_law 256 = .ok (.iconst 2, 1) := by decide +kernel
theorem dL_law_257 : decode cL_law 257 = .ok (.iadd, 1) := by decide +kernel
theorem dL_law_258 : decode cL_law 258 = .ok (.iaload, 1) := by decide +kernel
theorem dL_law_259 : decode cL_law 259 = .ok (.invokevirtual 29, 3) := by decide +kernel
theorem dL_law_262 : decode cL_law 262 = .ok (.pop, 1) := by decide +kernel
theorem dL_law_263 : decode cL_law 263 = .ok (.aload_n 2, 1) := by decide +kernel
theorem dL_law_264 : decode cL_law 264 = .ok (.aload_n 0, 1) := by decide +kernel
theorem dL_law_265 : decode cL_law 265 = .ok (.iload 4, 2) := by decide +kernel
theorem dL_law_267 : decode cL_law 267 = .ok (.iconst 1, 1) := by decide +kernel
theorem dL_law_268 : decode cL_law 268 = .ok (.iadd, 1) := by decide +kernel
theorem dL_law_269 : decode cL_law 269 = .ok (.iaload, 1) := by decide +kernel
theorem dL_law_270 : decode cL_law 270 = .ok (.aload_n 0, 1) := by decide +kernel
theorem dL_law_271 : decode cL_law 271 = .ok (.iload 4, 2) := by decide +kernel
theorem dL_law_273 : decode cL_law 273 = .ok (.iconst 2, 1) := by decide +kernel
theorem dL_law_274 : decode cL_law 274 = .ok (.iadd, 1) := by decide +kernel
theorem dL_law_275 : decode cL_law 275 = .ok (.iaload, 1) := by decide +kernel
theorem dL_law_276 : decode cL_law 276 = .ok (.invokevirtual 33, 3) := by decide +kernel
theorem dL_law_279 : decode cL_law 279 = .ok (.pop, 1) := by decide +kernel
theorem dL_law_280 : decode cL_law 280 = .ok (.goto 528, 3) := by decide +kernel
theorem dL_law_283 : decode cL_law 283 = .ok (.aload_n 1, 1) := by decide +kernel
theorem dL_law_284 : decode cL_law 284 = .ok (.aload_n 0, 1) := by decide +kernel
theorem dL_law_285 : decode cL_law 285 = .ok (.iload 4, 2) := by decide +kernel
theorem dL_law_287 : decode cL_law 287 = .ok (.iconst 1, 1) := by decide +kernel
theorem dL_law_288 : decode cL_law 288 = .ok (.iadd, 1) := by decide +kernel
theorem dL_law_289 : decode cL_law 289 = .ok (.iaload, 1) := by decide +kernel
theorem dL_law_290 : decode cL_law 290 = .ok (.aload_n 0, 1) := by decide +kernel
theorem dL_law_291 : decode cL_law 291 = .ok (.iload 4, 2) := by decide +kernel
theorem dL_law_293 : decode cL_law 293 = .ok (.iconst 2, 1) := by decide +kernel
theorem dL_law_294 : decode cL_law 294 = .ok (.iadd, 1) := by decide +kernel
theorem dL_law_295 : decode cL_law 295 = .ok (.iaload, 1) := by decide +kernel
theorem dL_law_296 : decode cL_law 296 = .ok (.invokevirtual 34, 3) := by decide +kernel
theorem dL_law_299 : decode cL_law 299 = .ok (.pop, 1) := by decide +kernel
theorem dL_law_300 : decode cL_law 300 = .ok (.aload_n 2, 1) := by decide +kernel
theorem dL_law_301 : decode cL_law 301 = .ok (.aload_n 0, 1) := by decide +kernel
theorem dL_law_302 : decode cL_law 302 = .ok (.iload 4, 2) := by decide +kernel
theorem dL_law_304 : decode cL_law 304 = .ok (.iconst 1, 1) := by decide +kernel
theorem dL_law_305 : decode cL_law 305 = .ok (.iadd, 1) := by decide +kernel
theorem dL_law_306 : decode cL_law 306 = .ok (.iaload, 1) := by decide +kernel
theorem dL_law_307 : decode cL_law 307 = .ok (.aload_n 0, 1) := by decide +kernel
theorem dL_law_308 : decode cL_law 308 = .ok (.iload 4, 2) := by decide +kernel
theorem dL_law_310 : decode cL_law 310 = .ok (.iconst 2, 1) := by decide +kernel
theorem dL_law_311 : decode cL_law 311 = .ok (.iadd, 1) := by decide +kernel
theorem dL_law_312 : decode cL_law 312 = .ok (.iaload, 1) := by decide +kernel
theorem dL_law_313 : decode cL_law 313 = .ok (.invokevirtual 37, 3) := by decide +kernel
theorem dL_law_316 : decode cL_law 316 = .ok (.pop, 1) := by decide +kernel
theorem dL_law_317 : decode cL_law 317 = .ok (.goto 491, 3) := by decide +kernel
theorem dL_law_320 : decode cL_law 320 = .ok (.aload_n 1, 1) := by decide +kernel
theorem dL_law_321 : decode cL_law 321 = .ok (.aload_n 0, 1) := by decide +kernel
theorem dL_law_322 : decode cL_law 322 = .ok (.iload 4, 2) := by decide +kernel
theorem dL_law_324 : decode cL_law 324 = .ok (.iconst 1, 1) := by decide +kernel
theorem dL_law_325 : decode cL_law 325 = .ok (.iadd, 1) := by decide +kernel
theorem dL_law_326 : decode cL_law 326 = .ok (.iaload, 1) := by decide +kernel
theorem dL_law_327 : decode cL_law 327 = .ok (.aload_n 0, 1) := by decide +kernel
theorem dL_law_328 : decode cL_law 328 = .ok (.iload 4, 2) := by decide +kernel
theorem dL_law_330 : decode cL_law 330 = .ok (.iconst 2, 1) := by decide +kernel
theorem dL_law_331 : decode cL_law 331 = .ok (.iadd, 1) := by decide +kernel
theorem dL_law_332 : decode cL_law 332 = .ok (.iaload, 1) := by decide +kernel
theorem dL_law_333 : decode cL_law 333 = .ok (.ifCond .eq 7, 3) := by decide +kernel
theorem dL_law_336 : decode cL_law 336 = .ok (.iconst 1, 1) := by decide +kernel
theorem dL_law_337 : decode cL_law 337 = .ok (.goto 4, 3) := by decide +kernel
theorem dL_law_340 : decode cL_law 340 = .ok (.iconst 0, 1) := by decide +kernel
theorem dL_law_341 : decode cL_law 341 = .ok (.invokevirtual 38, 3) := by decide +kernel
theorem dL_law_344 : decode cL_law 344 = .ok (.pop, 1) := by decide +kernel
theorem dL_law_345 : decode cL_law 345 = .ok (.aload_n 2, 1) := by decide +kernel
theorem dL_law_346 : decode cL_law 346 = .ok (.aload_n 0, 1) := by decide +kernel
theorem dL_law_347 : decode cL_law 347 = .ok (.iload 4, 2) := by decide +kernel
theorem dL_law_349 : decode cL_law 349 = .ok (.iconst 1, 1) := by decide +kernel
theorem dL_law_350 : decode cL_law 350 = .ok (.iadd, 1) := by decide +kernel
theorem dL_law_351 : decode cL_law 351 = .ok (.iaload, 1) := by decide +kernel
theorem dL_law_352 : decode cL_law 352 = .ok (.aload_n 0, 1) := by decide +kernel
theorem dL_law_353 : decode cL_law 353 = .ok (.iload 4, 2) := by decide +kernel
theorem dL_law_355 : decode cL_law 355 = .ok (.iconst 2, 1) := by decide +kernel
theorem dL_law_356 : decode cL_law 356 = .ok (.iadd, 1) := by decide +kernel
theorem dL_law_357 : decode cL_law 357 = .ok (.iaload, 1) := by decide +kernel
theorem dL_law_358 : decode cL_law 358 = .ok (.ifCond .eq 7, 3) := by decide +kernel
theorem dL_law_361 : decode cL_law 361 = .ok (.iconst 1, 1) := by decide +kernel
theorem dL_law_362 : decode cL_law 362 = .ok (.goto 4, 3) := by decide +kernel
theorem dL_law_365 : decode cL_law 365 = .ok (.iconst 0, 1) := by decide +kernel
theorem dL_law_366 : decode cL_law 366 = .ok (.invokevirtual 42, 3) := by decide +kernel
theorem dL_law_369 : decode cL_law 369 = .ok (.pop, 1) := by decide +kernel
theorem dL_law_370 : decode cL_law 370 = .ok (.goto 438, 3) := by decide +kernel
theorem dL_law_373 : decode cL_law 373 = .ok (.aload_n 1, 1) := by decide +kernel
theorem dL_law_374 : decode cL_law 374 = .ok (.aload_n 0, 1) := by decide +kernel
theorem dL_law_375 : decode cL_law 375 = .ok (.iload 4, 2) := by decide +kernel
theorem dL_law_377 : decode cL_law 377 = .ok (.iconst 1, 1) := by decide +kernel
theorem dL_law_378 : decode cL_law 378 = .ok (.iadd, 1) := by decide +kernel
theorem dL_law_379 : decode cL_law 379 = .ok (.iaload, 1) := by decide +kernel
theorem dL_law_380 : decode cL_law 380 = .ok (.invokevirtual 43, 3) := by decide +kernel
theorem dL_law_383 : decode cL_law 383 = .ok (.pop, 1) := by decide +kernel
theorem dL_law_384 : decode cL_law 384 = .ok (.aload_n 2, 1) := by decide +kernel
theorem dL_law_385 : decode cL_law 385 = .ok (.aload_n 0, 1) := by decide +kernel
theorem dL_law_386 : decode cL_law 386 = .ok (.iload 4, 2) := by decide +kernel
theorem dL_law_388 : decode cL_law 388 = .ok (.iconst 1, 1) := by decide +kernel
theorem dL_law_389 : decode cL_law 389 = .ok (.iadd, 1) := by decide +kernel
theorem dL_law_390 : decode cL_law 390 = .ok (.iaload, 1) := by decide +kernel
theorem dL_law_391 : decode cL_law 391 = .ok (.invokevirtual 47, 3) := by decide +kernel
theorem dL_law_394 : decode cL_law 394 = .ok (.pop, 1) := by decide +kernel
theorem dL_law_395 : decode cL_law 395 = .ok (.goto 413, 3) := by decide +kernel
theorem dL_law_398 : decode cL_law 398 = .ok (.aload_n 1, 1) := by decide +kernel
theorem dL_law_399 : decode cL_law 399 = .ok (.aload_n 0, 1) := by decide +kernel
theorem dL_law_400 : decode cL_law 400 = .ok (.iload 4, 2) := by decide +kernel
theorem dL_law_402 : decode cL_law 402 = .ok (.iconst 1, 1) := by decide +kernel
theorem dL_law_403 : decode cL_law 403 = .ok (.iadd, 1) := by decide +kernel
theorem dL_law_404 : decode cL_law 404 = .ok (.iaload, 1) := by decide +kernel
theorem dL_law_405 : decode cL_law 405 = .ok (.invokevirtual 48, 3) := by decide +kernel
theorem dL_law_408 : decode cL_law 408 = .ok (.pop, 1) := by decide +kernel
theorem dL_law_409 : decode cL_law 409 = .ok (.aload_n 2, 1) := by decide +kernel
theorem dL_law_410 : decode cL_law 410 = .ok (.aload_n 0, 1) := by decide +kernel
theorem dL_law_411 : decode cL_law 411 = .ok (.iload 4, 2) := by decide +kernel
theorem dL_law_413 : decode cL_law 413 = .ok (.iconst 1, 1) := by decide +kernel
theorem dL_law_414 : decode cL_law 414 = .ok (.iadd, 1) := by decide +kernel
theorem dL_law_415 : decode cL_law 415 = .ok (.iaload, 1) := by decide +kernel
theorem dL_law_416 : decode cL_law 416 = .ok (.invokevirtual 51, 3) := by decide +kernel
theorem dL_law_419 : decode cL_law 419 = .ok (.pop, 1) := by decide +kernel
theorem dL_law_420 : decode cL_law 420 = .ok (.goto 388, 3) := by decide +kernel
theorem dL_law_423 : decode cL_law 423 = .ok (.aload_n 1, 1) := by decide +kernel
theorem dL_law_424 : decode cL_law 424 = .ok (.aload_n 0, 1) := by decide +kernel
theorem dL_law_425 : decode cL_law 425 = .ok (.iload 4, 2) := by decide +kernel
theorem dL_law_427 : decode cL_law 427 = .ok (.iconst 1, 1) := by decide +kernel
theorem dL_law_428 : decode cL_law 428 = .ok (.iadd, 1) := by decide +kernel
theorem dL_law_429 : decode cL_law 429 = .ok (.iaload, 1) := by decide +kernel
theorem dL_law_430 : decode cL_law 430 = .ok (.invokevirtual 52, 3) := by decide +kernel
theorem dL_law_433 : decode cL_law 433 = .ok (.pop, 1) := by decide +kernel
theorem dL_law_434 : decode cL_law 434 = .ok (.aload_n 2, 1) := by decide +kernel
theorem dL_law_435 : decode cL_law 435 = .ok (.aload_n 0, 1) := by decide +kernel
theorem dL_law_436 : decode cL_law 436 = .ok (.iload 4, 2) := by decide +kernel
theorem dL_law_438 : decode cL_law 438 = .ok (.iconst 1, 1) := by decide +kernel
theorem dL_law_439 : decode cL_law 439 = .ok (.iadd, 1) := by decide +kernel
theorem dL_law_440 : decode cL_law 440 = .ok (.iaload, 1) := by decide +kernel
theorem dL_law_441 : decode cL_law 441 = .ok (.invokevirtual 55, 3) := by decide +kernel
theorem dL_law_444 : decode cL_law 444 = .ok (.pop, 1) := by decide +kernel
theorem dL_law_445 : decode cL_law 445 = .ok (.goto 363, 3) := by decide +kernel
theorem dL_law_448 : decode cL_law 448 = .ok (.aload_n 1, 1) := by decide +kernel
theorem dL_law_449 : decode cL_law 449 = .ok (.aload_n 0, 1) := by decide +kernel
theorem dL_law_450 : decode cL_law 450 = .ok (.iload 4, 2) := by decide +kernel
theorem dL_law_452 : decode cL_law 452 = .ok (.iconst 1, 1) := by decide +kernel
theorem dL_law_453 : decode cL_law 453 = .ok (.iadd, 1) := by decide +kernel
theorem dL_law_454 : decode cL_law 454 = .ok (.iaload, 1) := by decide +kernel
theorem dL_law_455 : decode cL_law 455 = .ok (.aload_n 0, 1) := by decide +kernel
theorem dL_law_456 : decode cL_law 456 = .ok (.iload 4, 2) := by decide +kernel
theorem dL_law_458 : decode cL_law 458 = .ok (.iconst 2, 1) := by decide +kernel
theorem dL_law_459 : decode cL_law 459 = .ok (.iadd, 1) := by decide +kernel
theorem dL_law_460 : decode cL_law 460 = .ok (.iaload, 1) := by decide +kernel
theorem dL_law_461 : decode cL_law 461 = .ok (.aload_n 0, 1) := by decide +kernel
theorem dL_law_462 : decode cL_law 462 = .ok (.iload 4, 2) := by decide +kernel
theorem dL_law_464 : decode cL_law 464 = .ok (.iconst 3, 1) := by decide +kernel
theorem dL_law_465 : decode cL_law 465 = .ok (.iadd, 1) := by decide +kernel
theorem dL_law_466 : decode cL_law 466 = .ok (.iaload, 1) := by decide +kernel
theorem dL_law_467 : decode cL_law 467 = .ok (.invokevirtual 56, 3) := by decide +kernel
theorem dL_law_470 : decode cL_law 470 = .ok (.pop, 1) := by decide +kernel
theorem dL_law_471 : decode cL_law 471 = .ok (.aload_n 2, 1) := by decide +kernel
theorem dL_law_472 : decode cL_law 472 = .ok (.aload_n 0, 1) := by decide +kernel
theorem dL_law_473 : decode cL_law 473 = .ok (.iload 4, 2) := by decide +kernel
theorem dL_law_475 : decode cL_law 475 = .ok (.iconst 1, 1) := by decide +kernel
theorem dL_law_476 : decode cL_law 476 = .ok (.iadd, 1) := by decide +kernel
theorem dL_law_477 : decode cL_law 477 = .ok (.iaload, 1) := by decide +kernel
theorem dL_law_478 : decode cL_law 478 = .ok (.aload_n 0, 1) := by decide +kernel
theorem dL_law_479 : decode cL_law 479 = .ok (.iload 4, 2) := by decide +kernel
theorem dL_law_481 : decode cL_law 481 = .ok (.iconst 2, 1) := by decide +kernel
theorem dL_law_482 : decode cL_law 482 = .ok (.iadd, 1) := by decide +kernel
theorem dL_law_483 : decode cL_law 483 = .ok (.iaload, 1) := by decide +kernel
theorem dL_law_484 : decode cL_law 484 = .ok (.aload_n 0, 1) := by decide +kernel
theorem dL_law_485 : decode cL_law 485 = .ok (.iload 4, 2) := by decide +kernel
theorem dL_law_487 : decode cL_law 487 = .ok (.iconst 3, 1) := by decide +kernel
theorem dL_law_488 : decode cL_law 488 = .ok (.iadd, 1) := by decide +kernel
theorem dL_law_489 : decode cL_law 489 = .ok (.iaload, 1) := by decide +kernel
theorem dL_law_490 : decode cL_law 490 = .ok (.invokevirtual 60, 3) := by decide +kernel
theorem dL_law_493 : decode cL_law 493 = .ok (.pop, 1) := by decide +kernel
theorem dL_law_494 : decode cL_law 494 = .ok (.goto 314, 3) := by decide +kernel
theorem dL_law_497 : decode cL_law 497 = .ok (.aload_n 1, 1) := by decide +kernel
theorem dL_law_498 : decode cL_law 498 = .ok (.aload_n 0, 1) := by decide +kernel
theorem dL_law_499 : decode cL_law 499 = .ok (.iload 4, 2) := by decide +kernel
theorem dL_law_501 : decode cL_law 501 = .ok (.iconst 1, 1) := by decide +kernel
theorem dL_law_502 : decode cL_law 502 = .ok (.iadd, 1) := by decide +kernel
theorem dL_law_503 : decode cL_law 503 = .ok (.iaload, 1) := by decide +kernel
theorem dL_law_504 : decode cL_law 504 = .ok (.aload_n 0, 1) := by decide +kernel
theorem dL_law_505 : decode cL_law 505 = .ok (.iload 4, 2) := by decide +kernel
theorem dL_law_507 : decode cL_law 507 = .ok (.iconst 2, 1) := by decide +kernel
theorem dL_law_508 : decode cL_law 508 = .ok (.iadd, 1) := by decide +kernel
theorem dL_law_509 : decode cL_law 509 = .ok (.iaload, 1) := by decide +kernel
theorem dL_law_510 : decode cL_law 510 = .ok (.aload_n 0, 1) := by decide +kernel
theorem dL_law_511 : decode cL_law 511 = .ok (.iload 4, 2) := by decide +kernel
theorem dL_law_513 : decode cL_law 513 = .ok (.iconst 3, 1) := by decide +kernel
theorem dL_law_514 : decode cL_law 514 = .ok (.iadd, 1) := by decide +kernel
theorem dL_law_515 : decode cL_law 515 = .ok (.iaload, 1) := by decide +kernel
theorem dL_law_516 : decode cL_law 516 = .ok (.aload_n 0, 1) := by decide +kernel
theorem dL_law_517 : decode cL_law 517 = .ok (.iload 4, 2) := by decide +kernel
theorem dL_law_519 : decode cL_law 519 = .ok (.iconst 4, 1) := by decide +kernel
theorem dL_law_520 : decode cL_law 520 = .ok (.iadd, 1) := by decide +kernel
theorem dL_law_521 : decode cL_law 521 = .ok (.iaload, 1) := by decide +kernel
theorem dL_law_522 : decode cL_law 522 = .ok (.invokevirtual 61, 3) := by decide +kernel
theorem dL_law_525 : decode cL_law 525 = .ok (.pop, 1) := by decide +kernel
theorem dL_law_526 : decode cL_law 526 = .ok (.aload_n 2, 1) := by decide +kernel
theorem dL_law_527 : decode cL_law 527 = .ok (.aload_n 0, 1) := by decide +kernel
theorem dL_law_528 : decode cL_law 528 = .ok (.iload 4, 2) := by decide +kernel
theorem dL_law_530 : decode cL_law 530 = .ok (.iconst 1, 1) := by decide +kernel
theorem dL_law_531 : decode cL_law 531 = .ok (.iadd, 1) := by decide +kernel
theorem dL_law_532 : decode cL_law 532 = .ok (.iaload, 1) := by decide +kernel
theorem dL_law_533 : decode cL_law 533 = .ok (.aload_n 0, 1) := by decide +kernel
theorem dL_law_534 : decode cL_law 534 = .ok (.iload 4, 2) := by decide +kernel
theorem dL_law_536 : decode cL_law 536 = .ok (.iconst 2, 1) := by decide +kernel
theorem dL_law_537 : decode cL_law 537 = .ok (.iadd, 1) := by decide +kernel
theorem dL_law_538 : decode cL_law 538 = .ok (.iaload, 1) := by decide +kernel
theorem dL_law_539 : decode cL_law 539 = .ok (.aload_n 0, 1) := by decide +kernel
theorem dL_law_540 : decode cL_law 540 = .ok (.iload 4, 2) := by decide +kernel
theorem dL_law_542 : decode cL_law 542 = .ok (.iconst 3, 1) := by decide +kernel
theorem dL_law_543 : decode cL_law 543 = .ok (.iadd, 1) := by decide +kernel
theorem dL_law_544 : decode cL_law 544 = .ok (.iaload, 1) := by decide +kernel
theorem dL_law_545 : decode cL_law 545 = .ok (.aload_n 0, 1) := by decide +kernel
theorem dL_law_546 : decode cL_law 546 = .ok (.iload 4, 2) := by decide +kernel
theorem dL_law_548 : decode cL_law 548 = .ok (.iconst 4, 1) := by decide +kernel
theorem dL_law_549 : decode cL_law 549 = .ok (.iadd, 1) := by decide +kernel
theorem dL_law_550 : decode cL_law 550 = .ok (.iaload, 1) := by decide +kernel
theorem dL_law_551 : decode cL_law 551 = .ok (.invokevirtual 64, 3) := by decide +kernel
theorem dL_law_554 : decode cL_law 554 = .ok (.pop, 1) := by decide +kernel
theorem dL_law_555 : decode cL_law 555 = .ok (.goto 253, 3) := by decide +kernel
theorem dL_law_558 : decode cL_law 558 = .ok (.aload_n 1, 1) := by decide +kernel
theorem dL_law_559 : decode cL_law 559 = .ok (.aload_n 0, 1) := by decide +kernel
theorem dL_law_560 : decode cL_law 560 = .ok (.iload 4, 2) := by decide +kernel
theorem dL_law_562 : decode cL_law 562 = .ok (.iconst 1, 1) := by decide +kernel
theorem dL_law_563 : decode cL_law 563 = .ok (.iadd, 1) := by decide +kernel
theorem dL_law_564 : decode cL_law 564 = .ok (.iaload, 1) := by decide +kernel
theorem dL_law_565 : decode cL_law 565 = .ok (.aload_n 0, 1) := by decide +kernel
theorem dL_law_566 : decode cL_law 566 = .ok (.iload 4, 2) := by decide +kernel
theorem dL_law_568 : decode cL_law 568 = .ok (.iconst 2, 1) := by decide +kernel
theorem dL_law_569 : decode cL_law 569 = .ok (.iadd, 1) := by decide +kernel
theorem dL_law_570 : decode cL_law 570 = .ok (.iaload, 1) := by decide +kernel
theorem dL_law_571 : decode cL_law 571 = .ok (.invokevirtual 65, 3) := by decide +kernel
theorem dL_law_574 : decode cL_law 574 = .ok (.pop, 1) := by decide +kernel
theorem dL_law_575 : decode cL_law 575 = .ok (.aload_n 2, 1) := by decide +kernel
theorem dL_law_576 : decode cL_law 576 = .ok (.aload_n 0, 1) := by decide +kernel
theorem dL_law_577 : decode cL_law 577 = .ok (.iload 4, 2) := by decide +kernel
theorem dL_law_579 : decode cL_law 579 = .ok (.iconst 1, 1) := by decide +kernel
theorem dL_law_580 : decode cL_law 580 = .ok (.iadd, 1) := by decide +kernel
theorem dL_law_581 : decode cL_law 581 = .ok (.iaload, 1) := by decide +kernel
theorem dL_law_582 : decode cL_law 582 = .ok (.aload_n 0, 1) := by decide +kernel
theorem dL_law_583 : decode cL_law 583 = .ok (.iload 4, 2) := by decide +kernel
theorem dL_law_585 : decode cL_law 585 = .ok (.iconst 2, 1) := by decide +kernel
theorem dL_law_586 : decode cL_law 586 = .ok (.iadd, 1) := by decide +kernel
theorem dL_law_587 : decode cL_law 587 = .ok (.iaload, 1) := by decide +kernel
theorem dL_law_588 : decode cL_law 588 = .ok (.invokevirtual 68, 3) := by decide +kernel
theorem dL_law_591 : decode cL_law 591 = .ok (.pop, 1) := by decide +kernel
theorem dL_law_592 : decode cL_law 592 = .ok (.goto 216, 3) := by decide +kernel
theorem dL_law_595 : decode cL_law 595 = .ok (.aload_n 1, 1) := by decide +kernel
theorem dL_law_596 : decode cL_law 596 = .ok (.aload_n 0, 1) := by decide +kernel
theorem dL_law_597 : decode cL_law 597 = .ok (.iload 4, 2) := by decide +kernel
theorem dL_law_599 : decode cL_law 599 = .ok (.iconst 1, 1) := by decide +kernel
theorem dL_law_600 : decode cL_law 600 = .ok (.iadd, 1) := by decide +kernel
theorem dL_law_601 : decode cL_law 601 = .ok (.iaload, 1) := by decide +kernel
theorem dL_law_602 : decode cL_law 602 = .ok (.aload_n 0, 1) := by decide +kernel
theorem dL_law_603 : decode cL_law 603 = .ok (.iload 4, 2) := by decide +kernel
theorem dL_law_605 : decode cL_law 605 = .ok (.iconst 2, 1) := by decide +kernel
theorem dL_law_606 : decode cL_law 606 = .ok (.iadd, 1) := by decide +kernel
theorem dL_law_607 : decode cL_law 607 = .ok (.iaload, 1) := by decide +kernel
theorem dL_law_608 : decode cL_law 608 = .ok (.invokevirtual 69, 3) := by decide +kernel
theorem dL_law_611 : decode cL_law 611 = .ok (.pop, 1) := by decide +kernel
theorem dL_law_612 : decode cL_law 612 = .ok (.aload_n 2, 1) := by decide +kernel
theorem dL_law_613 : decode cL_law 613 = .ok (.aload_n 0, 1) := by decide +kernel
theorem dL_law_614 : decode cL_law 614 = .ok (.iload 4, 2) := by decide +kernel
theorem dL_law_616 : decode cL_law 616 = .ok (.iconst 1, 1) := by decide +kernel
theorem dL_law_617 : decode cL_law 617 = .ok (.iadd, 1) := by decide +kernel
theorem dL_law_618 : decode cL_law 618 = .ok (.iaload, 1) := by decide +kernel
theorem dL_law_619 : decode cL_law 619 = .ok (.aload_n 0, 1) := by decide +kernel
theorem dL_law_620 : decode cL_law 620 = .ok (.iload 4, 2) := by decide +kernel
theorem dL_law_622 : decode cL_law 622 = .ok (.iconst 2, 1) := by decide +kernel
theorem dL_law_623 : decode cL_law 623 = .ok (.iadd, 1) := by decide +kernel
theorem dL_law_624 : decode cL_law 624 = .ok (.iaload, 1) := by decide +kernel
theorem dL_law_625 : decode cL_law 625 = .ok (.invokevirtual 72, 3) := by decide +kernel
theorem dL_law_628 : decode cL_law 628 = .ok (.pop, 1) := by decide +kernel
theorem dL_law_629 : decode cL_law 629 = .ok (.goto 179, 3) := by decide +kernel
theorem dL_law_632 : decode cL_law 632 = .ok (.aload_n 1, 1) := by decide +kernel
theorem dL_law_633 : decode cL_law 633 = .ok (.aload_n 0, 1) := by decide +kernel
theorem dL_law_634 : decode cL_law 634 = .ok (.iload 4, 2) := by decide +kernel
theorem dL_law_636 : decode cL_law 636 = .ok (.iconst 1, 1) := by decide +kernel
theorem dL_law_637 : decode cL_law 637 = .ok (.iadd, 1) := by decide +kernel
theorem dL_law_638 : decode cL_law 638 = .ok (.iaload, 1) := by decide +kernel
theorem dL_law_639 : decode cL_law 639 = .ok (.aload_n 0, 1) := by decide +kernel
theorem dL_law_640 : decode cL_law 640 = .ok (.iload 4, 2) := by decide +kernel
theorem dL_law_642 : decode cL_law 642 = .ok (.iconst 2, 1) := by decide +kernel
theorem dL_law_643 : decode cL_law 643 = .ok (.iadd, 1) := by decide +kernel
theorem dL_law_644 : decode cL_law 644 = .ok (.iaload, 1) := by decide +kernel
theorem dL_law_645 : decode cL_law 645 = .ok (.aload_n 0, 1) := by decide +kernel
theorem dL_law_646 : decode cL_law 646 = .ok (.iload 4, 2) := by decide +kernel
theorem dL_law_648 : decode cL_law 648 = .ok (.iconst 3, 1) := by decide +kernel
theorem dL_law_649 : decode cL_law 649 = .ok (.iadd, 1) := by decide +kernel
theorem dL_law_650 : decode cL_law 650 = .ok (.iaload, 1) := by decide +kernel
theorem dL_law_651 : decode cL_law 651 = .ok (.invokevirtual 73, 3) := by decide +kernel
theorem dL_law_654 : decode cL_law 654 = .ok (.pop, 1) := by decide +kernel
theorem dL_law_655 : decode cL_law 655 = .ok (.aload_n 2, 1) := by decide +kernel
theorem dL_law_656 : decode cL_law 656 = .ok (.aload_n 0, 1) := by decide +kernel
theorem dL_law_657 : decode cL_law 657 = .ok (.iload 4, 2) := by decide +kernel
theorem dL_law_659 : decode cL_law 659 = .ok (.iconst 1, 1) := by decide +kernel
theorem dL_law_660 : decode cL_law 660 = .ok (.iadd, 1) := by decide +kernel
theorem dL_law_661 : decode cL_law 661 = .ok (.iaload, 1) := by decide +kernel
theorem dL_law_662 : decode cL_law 662 = .ok (.aload_n 0, 1) := by decide +kernel
theorem dL_law_663 : decode cL_law 663 = .ok (.iload 4, 2) := by decide +kernel
theorem dL_law_665 : decode cL_law 665 = .ok (.iconst 2, 1) := by decide +kernel
theorem dL_law_666 : decode cL_law 666 = .ok (.iadd, 1) := by decide +kernel
theorem dL_law_667 : decode cL_law 667 = .ok (.iaload, 1) := by decide +kernel
theorem dL_law_668 : decode cL_law 668 = .ok (.aload_n 0, 1) := by decide +kernel
theorem dL_law_669 : decode cL_law 669 = .ok (.iload 4, 2) := by decide +kernel
theorem dL_law_671 : decode cL_law 671 = .ok (.iconst 3, 1) := by decide +kernel
theorem dL_law_672 : decode cL_law 672 = .ok (.iadd, 1) := by decide +kernel
theorem dL_law_673 : decode cL_law 673 = .ok (.iaload, 1) := by decide +kernel
theorem dL_law_674 : decode cL_law 674 = .ok (.invokevirtual 76, 3) := by decide +kernel
theorem dL_law_677 : decode cL_law 677 = .ok (.pop, 1) := by decide +kernel
theorem dL_law_678 : decode cL_law 678 = .ok (.goto 130, 3) := by decide +kernel
theorem dL_law_681 : decode cL_law 681 = .ok (.aload_n 1, 1) := by decide +kernel
theorem dL_law_682 : decode cL_law 682 = .ok (.aload_n 0, 1) := by decide +kernel
theorem dL_law_683 : decode cL_law 683 = .ok (.iload 4, 2) := by decide +kernel
theorem dL_law_685 : decode cL_law 685 = .ok (.iconst 1, 1) := by decide +kernel
theorem dL_law_686 : decode cL_law 686 = .ok (.iadd, 1) := by decide +kernel
theorem dL_law_687 : decode cL_law 687 = .ok (.iaload, 1) := by decide +kernel
theorem dL_law_688 : decode cL_law 688 = .ok (.invokevirtual 77, 3) := by decide +kernel
theorem dL_law_691 : decode cL_law 691 = .ok (.pop, 1) := by decide +kernel
theorem dL_law_692 : decode cL_law 692 = .ok (.aload_n 2, 1) := by decide +kernel
theorem dL_law_693 : decode cL_law 693 = .ok (.aload_n 0, 1) := by decide +kernel
theorem dL_law_694 : decode cL_law 694 = .ok (.iload 4, 2) := by decide +kernel
theorem dL_law_696 : decode cL_law 696 = .ok (.iconst 1, 1) := by decide +kernel
theorem dL_law_697 : decode cL_law 697 = .ok (.iadd, 1) := by decide +kernel
theorem dL_law_698 : decode cL_law 698 = .ok (.iaload, 1) := by decide +kernel
theorem dL_law_699 : decode cL_law 699 = .ok (.invokevirtual 80, 3) := by decide +kernel
theorem dL_law_702 : decode cL_law 702 = .ok (.pop, 1) := by decide +kernel
theorem dL_law_703 : decode cL_law 703 = .ok (.goto 105, 3) := by decide +kernel
theorem dL_law_706 : decode cL_law 706 = .ok (.aload_n 1, 1) := by decide +kernel
theorem dL_law_707 : decode cL_law 707 = .ok (.aload_n 0, 1) := by decide +kernel
theorem dL_law_708 : decode cL_law 708 = .ok (.iload 4, 2) := by decide +kernel
theorem dL_law_710 : decode cL_law 710 = .ok (.iconst 1, 1) := by decide +kernel
theorem dL_law_711 : decode cL_law 711 = .ok (.iadd, 1) := by decide +kernel
theorem dL_law_712 : decode cL_law 712 = .ok (.iaload, 1) := by decide +kernel
theorem dL_law_713 : decode cL_law 713 = .ok (.aload_n 0, 1) := by decide +kernel
theorem dL_law_714 : decode cL_law 714 = .ok (.iload 4, 2) := by decide +kernel
theorem dL_law_716 : decode cL_law 716 = .ok (.iconst 2, 1) := by decide +kernel
theorem dL_law_717 : decode cL_law 717 = .ok (.iadd, 1) := by decide +kernel
theorem dL_law_718 : decode cL_law 718 = .ok (.iaload, 1) := by decide +kernel
theorem dL_law_719 : decode cL_law 719 = .ok (.invokevirtual 81, 3) := by decide +kernel
theorem dL_law_722 : decode cL_law 722 = .ok (.aload_n 2, 1) := by decide +kernel
theorem dL_law_723 : decode cL_law 723 = .ok (.aload_n 0, 1) := by decide +kernel
theorem dL_law_724 : decode cL_law 724 = .ok (.iload 4, 2) := by decide +kernel
theorem dL_law_726 : decode cL_law 726 = .ok (.iconst 1, 1) := by decide +kernel
theorem dL_law_727 : decode cL_law 727 = .ok (.iadd, 1) := by decide +kernel
theorem dL_law_728 : decode cL_law 728 = .ok (.iaload, 1) := by decide +kernel
theorem dL_law_729 : decode cL_law 729 = .ok (.aload_n 0, 1) := by decide +kernel
theorem dL_law_730 : decode cL_law 730 = .ok (.iload 4, 2) := by decide +kernel
theorem dL_law_732 : decode cL_law 732 = .ok (.iconst 2, 1) := by decide +kernel
theorem dL_law_733 : decode cL_law 733 = .ok (.iadd, 1) := by decide +kernel
theorem dL_law_734 : decode cL_law 734 = .ok (.iaload, 1) := by decide +kernel
theorem dL_law_735 : decode cL_law 735 = .ok (.invokevirtual 84, 3) := by decide +kernel
theorem dL_law_738 : decode cL_law 738 = .ok (.if_icmp .eq 70, 3) := by decide +kernel
theorem dL_law_741 : decode cL_law 741 = .ok (.iconst 0, 1) := by decide +kernel
theorem dL_law_742 : decode cL_law 742 = .ok (.ireturn, 1) := by decide +kernel
theorem dL_law_743 : decode cL_law 743 = .ok (.aload_n 1, 1) := by decide +kernel
theorem dL_law_744 : decode cL_law 744 = .ok (.aload_n 0, 1) := by decide +kernel
theorem dL_law_745 : decode cL_law 745 = .ok (.iload 4, 2) := by decide +kernel
theorem dL_law_747 : decode cL_law 747 = .ok (.iconst 1, 1) := by decide +kernel
theorem dL_law_748 : decode cL_law 748 = .ok (.iadd, 1) := by decide +kernel
theorem dL_law_749 : decode cL_law 749 = .ok (.iaload, 1) := by decide +kernel
theorem dL_law_750 : decode cL_law 750 = .ok (.aload_n 0, 1) := by decide +kernel
theorem dL_law_751 : decode cL_law 751 = .ok (.iload 4, 2) := by decide +kernel
theorem dL_law_753 : decode cL_law 753 = .ok (.iconst 2, 1) := by decide +kernel
theorem dL_law_754 : decode cL_law 754 = .ok (.iadd, 1) := by decide +kernel
theorem dL_law_755 : decode cL_law 755 = .ok (.iaload, 1) := by decide +kernel
theorem dL_law_756 : decode cL_law 756 = .ok (.aload_n 3, 1) := by decide +kernel
theorem dL_law_757 : decode cL_law 757 = .ok (.invokestatic 85, 3) := by decide +kernel
theorem dL_law_760 : decode cL_law 760 = .ok (.istore 5, 2) := by decide +kernel
theorem dL_law_762 : decode cL_law 762 = .ok (.aload_n 2, 1) := by decide +kernel
theorem dL_law_763 : decode cL_law 763 = .ok (.aload_n 0, 1) := by decide +kernel
theorem dL_law_764 : decode cL_law 764 = .ok (.iload 4, 2) := by decide +kernel
theorem dL_law_766 : decode cL_law 766 = .ok (.iconst 1, 1) := by decide +kernel
theorem dL_law_767 : decode cL_law 767 = .ok (.iadd, 1) := by decide +kernel
theorem dL_law_768 : decode cL_law 768 = .ok (.iaload, 1) := by decide +kernel
theorem dL_law_769 : decode cL_law 769 = .ok (.aload_n 0, 1) := by decide +kernel
theorem dL_law_770 : decode cL_law 770 = .ok (.iload 4, 2) := by decide +kernel
theorem dL_law_772 : decode cL_law 772 = .ok (.iconst 2, 1) := by decide +kernel
theorem dL_law_773 : decode cL_law 773 = .ok (.iadd, 1) := by decide +kernel
theorem dL_law_774 : decode cL_law 774 = .ok (.iaload, 1) := by decide +kernel
theorem dL_law_775 : decode cL_law 775 = .ok (.invokevirtual 90, 3) := by decide +kernel
theorem dL_law_778 : decode cL_law 778 = .ok (.istore 6, 2) := by decide +kernel
theorem dL_law_780 : decode cL_law 780 = .ok (.goto 28, 3) := by decide +kernel
theorem dL_law_783 : decode cL_law 783 = .ok (.aload_n 1, 1) := by decide +kernel
theorem dL_law_784 : decode cL_law 784 = .ok (.aload_n 0, 1) := by decide +kernel
theorem dL_law_785 : decode cL_law 785 = .ok (.iload 4, 2) := by decide +kernel
theorem dL_law_787 : decode cL_law 787 = .ok (.iconst 1, 1) := by decide +kernel
theorem dL_law_788 : decode cL_law 788 = .ok (.iadd, 1) := by decide +kernel
theorem dL_law_789 : decode cL_law 789 = .ok (.iaload, 1) := by decide +kernel
theorem dL_law_790 : decode cL_law 790 = .ok (.invokevirtual 91, 3) := by decide +kernel
theorem dL_law_793 : decode cL_law 793 = .ok (.pop, 1) := by decide +kernel
theorem dL_law_794 : decode cL_law 794 = .ok (.aload_n 2, 1) := by decide +kernel
theorem dL_law_795 : decode cL_law 795 = .ok (.aload_n 0, 1) := by decide +kernel
theorem dL_law_796 : decode cL_law 796 = .ok (.iload 4, 2) := by decide +kernel
theorem dL_law_798 : decode cL_law 798 = .ok (.iconst 1, 1) := by decide +kernel
theorem dL_law_799 : decode cL_law 799 = .ok (.iadd, 1) := by decide +kernel
theorem dL_law_800 : decode cL_law 800 = .ok (.iaload, 1) := by decide +kernel
theorem dL_law_801 : decode cL_law 801 = .ok (.invokevirtual 94, 3) := by decide +kernel
theorem dL_law_804 : decode cL_law 804 = .ok (.pop, 1) := by decide +kernel
theorem dL_law_805 : decode cL_law 805 = .ok (.goto 3, 3) := by decide +kernel
theorem dL_law_808 : decode cL_law 808 = .ok (.iinc 4 5, 3) := by decide +kernel
theorem dL_law_811 : decode cL_law 811 = .ok (.goto (-788), 3) := by decide +kernel
theorem dL_law_814 : decode cL_law 814 = .ok (.iconst 1, 1) := by decide +kernel
theorem dL_law_815 : decode cL_law 815 = .ok (.ireturn, 1) := by decide +kernel
end
section
def WW : List Cond := lw_tbl.filter goodWord
theorem wwOf {w : Cond} (h : w ∈ lw_tbl) (g : goodWord w = true) : w ∈ WW := List.mem_filter.mpr ⟨h, g⟩
theorem ww_tbl : ∀ w ∈ WW, w ∈ lw_tbl := fun _ h => (List.mem_filter.mp h).1
theorem ww_good : ∀ w ∈ WW, goodWord w = true := fun _ h => (List.mem_filter.mp h).2
theorem tbS {w : Cond} (h : w ∈ k2_sels lw_privs) : w ∈ lw_tbl := List.mem_append_left _ h
theorem tb1 {w : Cond} (h : w ∈ tables_1_1) : w ∈ lw_tbl := List.mem_append_right _ (List.mem_append_left _ h)
theorem tb2 {w : Cond} (h : w ∈ tables_1_2) : w ∈ lw_tbl := List.mem_append_right _ (List.mem_append_right _ (List.mem_append_left _ h))
theorem tb3 {w : Cond} (h : w ∈ tables_1_3) : w ∈ lw_tbl := List.mem_append_right _ (List.mem_append_right _ (List.mem_append_right _ (List.mem_append_left _ h)))
theorem tb4 {w : Cond} (h : w ∈ tables_1_4) : w ∈ lw_tbl := List.mem_append_right _ (List.mem_append_right _ (List.mem_append_right _ (List.mem_append_right _ (h))))
theorem kw_t1_0 : (Cond.initialized RL) ∈ WW := wwOf (tb1 (List.mem_of_getElem? (i := 0) rfl)) rfl
theorem kw_t1_1 : (Cond.initialized RX5) ∈ WW := wwOf (tb1 (List.mem_of_getElem? (i := 1) rfl)) rfl
theorem kw_t1_2 : (Cond.initialized RX4) ∈ WW := wwOf (tb1 (List.mem_of_getElem? (i := 2) rfl)) rfl
theorem kw_t1_3 : (Cond.initialized RX2) ∈ WW := wwOf (tb1 (List.mem_of_getElem? (i := 3) rfl)) rfl
theorem kw_t1_4 : (Cond.initialized RX1) ∈ WW := wwOf (tb1 (List.mem_of_getElem? (i := 4) rfl)) rfl
theorem kw_t1_5 : (Cond.initialized RX0) ∈ WW := wwOf (tb1 (List.mem_of_getElem? (i := 5) rfl)) rfl
theorem kw_t1_6 : (Cond.initialized RX3) ∈ WW := wwOf (tb1 (List.mem_of_getElem? (i := 6) rfl)) rfl
theorem kw_t1_7 : (Cond.initialized RX6) ∈ WW := wwOf (tb1 (List.mem_of_getElem? (i := 7) rfl)) rfl
theorem kw_t1_8 : (Cond.initialized RJ9) ∈ WW := wwOf (tb1 (List.mem_of_getElem? (i := 8) rfl)) rfl
theorem kw_t1_9 : (Cond.initialized RJ6) ∈ WW := wwOf (tb1 (List.mem_of_getElem? (i := 9) rfl)) rfl
theorem kw_t1_10 : (Cond.initialized "java/lang/Throwable") ∈ WW := wwOf (tb1 (List.mem_of_getElem? (i := 10) rfl)) rfl
theorem kw_t1_11 : (Cond.initialized "java/lang/Exception") ∈ WW := wwOf (tb1 (List.mem_of_getElem? (i := 11) rfl)) rfl
theorem kw_t1_12 : (Cond.initialized "java/lang/RuntimeException") ∈ WW := wwOf (tb1 (List.mem_of_getElem? (i := 12) rfl)) rfl
theorem kw_t1_13 : (Cond.initialized "java/util/NoSuchElementException") ∈ WW := wwOf (tb1 (List.mem_of_getElem? (i := 13) rfl)) rfl
theorem kw_t1_14 : (Cond.classLink RL 8 RX5) ∈ WW := wwOf (tb1 (List.mem_of_getElem? (i := 14) rfl)) rfl
theorem kw_t1_15 : (Cond.instantiable RX5 11) ∈ WW := wwOf (tb1 (List.mem_of_getElem? (i := 15) rfl)) rfl
theorem kw_t1_16 : (Cond.methodLink RL 15 yX5_init) ∈ WW := wwOf (tb1 (List.mem_of_getElem? (i := 16) rfl)) rfl
theorem kw_t1_17 : (Cond.instanceMethod yX5_init) ∈ WW := wwOf (tb1 (List.mem_of_getElem? (i := 17) rfl)) rfl
theorem kw_t1_18 : (Cond.code yX5_init prog_1_method_1_code 2 (Option.none : Option Jvm.ClassFile.FieldType)) ∈ WW := wwOf (tb1 (List.mem_of_getElem? (i := 18) rfl)) rfl
theorem kw_t1_19 : (Cond.methodLink RX5 3 objectInit) ∈ WW := wwOf (tb1 (List.mem_of_getElem? (i := 19) rfl)) rfl
theorem kw_t1_20 : (Cond.instanceMethod objectInit) ∈ WW := wwOf (tb1 (List.mem_of_getElem? (i := 20) rfl)) rfl
theorem kw_t1_21 : (Cond.code objectInit object_method_1_code 1 (Option.none : Option Jvm.ClassFile.FieldType)) ∈ WW := wwOf (tb1 (List.mem_of_getElem? (i := 21) rfl)) rfl
theorem kw_t1_22 : (Cond.classLink RX5 9 RX3) ∈ WW := wwOf (tb1 (List.mem_of_getElem? (i := 22) rfl)) rfl
theorem kw_t1_24 : (Cond.classLink RX5 15 RX0) ∈ WW := wwOf (tb1 (List.mem_of_getElem? (i := 24) rfl)) rfl
theorem kw_t1_26 : (Cond.classLink RX5 21 RX4) ∈ WW := wwOf (tb1 (List.mem_of_getElem? (i := 26) rfl)) rfl
theorem kw_t1_27 : (Cond.instantiable RX4 1) ∈ WW := wwOf (tb1 (List.mem_of_getElem? (i := 27) rfl)) rfl
theorem kw_t1_29 : (Cond.instanceMethod yX4_init) ∈ WW := wwOf (tb1 (List.mem_of_getElem? (i := 29) rfl)) rfl
theorem kw_t1_30 : (Cond.code yX4_init prog_6_method_1_code 1 (Option.none : Option Jvm.ClassFile.FieldType)) ∈ WW := wwOf (tb1 (List.mem_of_getElem? (i := 30) rfl)) rfl
theorem kw_t1_31 : (Cond.methodLink RX4 3 objectInit) ∈ WW := wwOf (tb1 (List.mem_of_getElem? (i := 31) rfl)) rfl
theorem kw_t1_32 : (Cond.fieldLink RX4 9 "KeyTurner$Web" "direct" "[I") ∈ WW := wwOf (tb1 (List.mem_of_getElem? (i := 32) rfl)) rfl
theorem kw_t1_33 : (Cond.fieldLink RX5 258 "KeyTurner$Web" "direct" "[I") ∈ WW := wwOf (tb1 (List.mem_of_getElem? (i := 33) rfl)) rfl
theorem kw_t1_36 : (Cond.superclass RX4 "java/lang/Object") ∈ WW := wwOf (tb1 (List.mem_of_getElem? (i := 36) rfl)) rfl
theorem kw_t1_37 : (Cond.arrayClass Jvm.ClassFile.FieldType.int) ∈ WW := wwOf (tb1 (List.mem_of_getElem? (i := 37) rfl)) rfl
theorem kw_t1_38 : (Cond.classLink RX5 28 RX2) ∈ WW := wwOf (tb1 (List.mem_of_getElem? (i := 38) rfl)) rfl
theorem kw_t1_39 : (Cond.instantiable RX2 2) ∈ WW := wwOf (tb1 (List.mem_of_getElem? (i := 39) rfl)) rfl
theorem kw_t1_40 : (Cond.methodLink RX5 30 yX2_init) ∈ WW := wwOf (tb1 (List.mem_of_getElem? (i := 40) rfl)) rfl
theorem kw_t1_41 : (Cond.instanceMethod yX2_init) ∈ WW := wwOf (tb1 (List.mem_of_getElem? (i := 41) rfl)) rfl
theorem kw_t1_42 : (Cond.code yX2_init prog_4_method_1_code 2 (Option.none : Option Jvm.ClassFile.FieldType)) ∈ WW := wwOf (tb1 (List.mem_of_getElem? (i := 42) rfl)) rfl
theorem kw_t1_43 : (Cond.methodLink RX2 3 objectInit) ∈ WW := wwOf (tb1 (List.mem_of_getElem? (i := 43) rfl)) rfl
theorem kw_t1_44 : (Cond.fieldLink RX2 9 "KeyTurner$People" "delays" "[I") ∈ WW := wwOf (tb1 (List.mem_of_getElem? (i := 44) rfl)) rfl
theorem kw_t1_45 : (Cond.fieldLink RX5 85 "KeyTurner$People" "delays" "[I") ∈ WW := wwOf (tb1 (List.mem_of_getElem? (i := 45) rfl)) rfl
theorem kw_t1_46 : (Cond.fieldLink RX0 71 "KeyTurner$People" "delays" "[I") ∈ WW := wwOf (tb1 (List.mem_of_getElem? (i := 46) rfl)) rfl
theorem kw_t1_47 : (Cond.fieldLink RX2 15 "KeyTurner$People" "downBits" "I") ∈ WW := wwOf (tb1 (List.mem_of_getElem? (i := 47) rfl)) rfl
theorem kw_t1_48 : (Cond.fieldLink RX5 92 "KeyTurner$People" "downBits" "I") ∈ WW := wwOf (tb1 (List.mem_of_getElem? (i := 48) rfl)) rfl
theorem kw_t1_53 : (Cond.superclass RX2 "java/lang/Object") ∈ WW := wwOf (tb1 (List.mem_of_getElem? (i := 53) rfl)) rfl
theorem kw_t1_54 : (Cond.classLink RX5 35 RX1) ∈ WW := wwOf (tb1 (List.mem_of_getElem? (i := 54) rfl)) rfl
theorem kw_t1_55 : (Cond.instantiable RX1 2) ∈ WW := wwOf (tb1 (List.mem_of_getElem? (i := 55) rfl)) rfl
theorem kw_t1_57 : (Cond.instanceMethod yX1_init) ∈ WW := wwOf (tb1 (List.mem_of_getElem? (i := 57) rfl)) rfl
theorem kw_t1_58 : (Cond.code yX1_init prog_3_method_1_code 1 (Option.none : Option Jvm.ClassFile.FieldType)) ∈ WW := wwOf (tb1 (List.mem_of_getElem? (i := 58) rfl)) rfl
theorem kw_t1_59 : (Cond.methodLink RX1 3 objectInit) ∈ WW := wwOf (tb1 (List.mem_of_getElem? (i := 59) rfl)) rfl
theorem kw_t1_60 : (Cond.fieldLink RX1 11 "KeyTurner$Log" "rows" "[I") ∈ WW := wwOf (tb1 (List.mem_of_getElem? (i := 60) rfl)) rfl
theorem kw_t1_61 : (Cond.fieldLink RX5 196 "KeyTurner$Log" "rows" "[I") ∈ WW := wwOf (tb1 (List.mem_of_getElem? (i := 61) rfl)) rfl
theorem kw_t1_62 : (Cond.fieldLink RX1 15 "KeyTurner$Log" "begun" "I") ∈ WW := wwOf (tb1 (List.mem_of_getElem? (i := 62) rfl)) rfl
theorem kw_t1_63 : (Cond.fieldLink RX5 199 "KeyTurner$Log" "begun" "I") ∈ WW := wwOf (tb1 (List.mem_of_getElem? (i := 63) rfl)) rfl
theorem kw_t1_68 : (Cond.superclass RX1 "java/lang/Object") ∈ WW := wwOf (tb1 (List.mem_of_getElem? (i := 68) rfl)) rfl
theorem kw_t1_69 : (Cond.instantiable RX0 9) ∈ WW := wwOf (tb1 (List.mem_of_getElem? (i := 69) rfl)) rfl
theorem kw_t1_71 : (Cond.instanceMethod yX0_init) ∈ WW := wwOf (tb1 (List.mem_of_getElem? (i := 71) rfl)) rfl
theorem kw_t1_72 : (Cond.code yX0_init prog_2_method_1_code 1 (Option.none : Option Jvm.ClassFile.FieldType)) ∈ WW := wwOf (tb1 (List.mem_of_getElem? (i := 72) rfl)) rfl
theorem kw_t1_73 : (Cond.methodLink RX0 3 objectInit) ∈ WW := wwOf (tb1 (List.mem_of_getElem? (i := 73) rfl)) rfl
theorem kw_t1_74 : (Cond.classLink RX0 9 RX3) ∈ WW := wwOf (tb1 (List.mem_of_getElem? (i := 74) rfl)) rfl
theorem kw_t1_75 : (Cond.instantiable RX3 10) ∈ WW := wwOf (tb1 (List.mem_of_getElem? (i := 75) rfl)) rfl
theorem kw_t1_77 : (Cond.instanceMethod yX3_init) ∈ WW := wwOf (tb1 (List.mem_of_getElem? (i := 77) rfl)) rfl
theorem kw_t1_78 : (Cond.code yX3_init prog_5_method_1_code 1 (Option.none : Option Jvm.ClassFile.FieldType)) ∈ WW := wwOf (tb1 (List.mem_of_getElem? (i := 78) rfl)) rfl
theorem kw_t1_79 : (Cond.methodLink RX3 3 objectInit) ∈ WW := wwOf (tb1 (List.mem_of_getElem? (i := 79) rfl)) rfl
theorem kw_t1_80 : (Cond.fieldLink RX3 9 "KeyTurner$Secret" "kind" "I") ∈ WW := wwOf (tb1 (List.mem_of_getElem? (i := 80) rfl)) rfl
theorem kw_t1_81 : (Cond.fieldLink RX0 51 "KeyTurner$Secret" "kind" "I") ∈ WW := wwOf (tb1 (List.mem_of_getElem? (i := 81) rfl)) rfl
theorem kw_t1_82 : (Cond.fieldLink RX5 152 "KeyTurner$Secret" "kind" "I") ∈ WW := wwOf (tb1 (List.mem_of_getElem? (i := 82) rfl)) rfl
theorem kw_t1_83 : (Cond.fieldLink RX3 15 "KeyTurner$Secret" "holders" "I") ∈ WW := wwOf (tb1 (List.mem_of_getElem? (i := 83) rfl)) rfl
theorem kw_t1_84 : (Cond.fieldLink RX0 58 "KeyTurner$Secret" "holders" "I") ∈ WW := wwOf (tb1 (List.mem_of_getElem? (i := 84) rfl)) rfl
theorem kw_t1_85 : (Cond.fieldLink RX5 132 "KeyTurner$Secret" "holders" "I") ∈ WW := wwOf (tb1 (List.mem_of_getElem? (i := 85) rfl)) rfl
theorem kw_t1_86 : (Cond.fieldLink RX3 18 "KeyTurner$Secret" "checkers" "I") ∈ WW := wwOf (tb1 (List.mem_of_getElem? (i := 86) rfl)) rfl
theorem kw_t1_87 : (Cond.fieldLink RX0 64 "KeyTurner$Secret" "checkers" "I") ∈ WW := wwOf (tb1 (List.mem_of_getElem? (i := 87) rfl)) rfl
theorem kw_t1_88 : (Cond.fieldLink RX5 138 "KeyTurner$Secret" "checkers" "I") ∈ WW := wwOf (tb1 (List.mem_of_getElem? (i := 88) rfl)) rfl
theorem kw_t1_89 : (Cond.fieldLink RX3 21 "KeyTurner$Secret" "life" "I") ∈ WW := wwOf (tb1 (List.mem_of_getElem? (i := 89) rfl)) rfl
theorem kw_t1_90 : (Cond.fieldLink RX5 155 "KeyTurner$Secret" "life" "I") ∈ WW := wwOf (tb1 (List.mem_of_getElem? (i := 90) rfl)) rfl
theorem kw_t1_91 : (Cond.fieldLink RX3 24 "KeyTurner$Secret" "latest" "I") ∈ WW := wwOf (tb1 (List.mem_of_getElem? (i := 91) rfl)) rfl
theorem kw_t1_92 : (Cond.fieldLink RX5 102 "KeyTurner$Secret" "latest" "I") ∈ WW := wwOf (tb1 (List.mem_of_getElem? (i := 92) rfl)) rfl
theorem kw_t1_93 : (Cond.fieldLink RX0 113 "KeyTurner$Secret" "latest" "I") ∈ WW := wwOf (tb1 (List.mem_of_getElem? (i := 93) rfl)) rfl
theorem kw_t1_94 : (Cond.fieldLink RX3 27 "KeyTurner$Secret" "latestMade" "I") ∈ WW := wwOf (tb1 (List.mem_of_getElem? (i := 94) rfl)) rfl
theorem kw_t1_95 : (Cond.fieldLink RX5 161 "KeyTurner$Secret" "latestMade" "I") ∈ WW := wwOf (tb1 (List.mem_of_getElem? (i := 95) rfl)) rfl
theorem kw_t1_96 : (Cond.fieldLink RX3 30 "KeyTurner$Secret" "olderMade" "I") ∈ WW := wwOf (tb1 (List.mem_of_getElem? (i := 96) rfl)) rfl
theorem kw_t1_97 : (Cond.fieldLink RX3 33 "KeyTurner$Secret" "latestHeld" "I") ∈ WW := wwOf (tb1 (List.mem_of_getElem? (i := 97) rfl)) rfl
theorem kw_t1_98 : (Cond.fieldLink RX0 90 "KeyTurner$Secret" "latestHeld" "I") ∈ WW := wwOf (tb1 (List.mem_of_getElem? (i := 98) rfl)) rfl
theorem kw_t1_99 : (Cond.fieldLink RX3 36 "KeyTurner$Secret" "latestGood" "I") ∈ WW := wwOf (tb1 (List.mem_of_getElem? (i := 99) rfl)) rfl
theorem kw_t1_100 : (Cond.fieldLink RX0 93 "KeyTurner$Secret" "latestGood" "I") ∈ WW := wwOf (tb1 (List.mem_of_getElem? (i := 100) rfl)) rfl
theorem kw_t1_101 : (Cond.fieldLink RX3 39 "KeyTurner$Secret" "olderGood" "I") ∈ WW := wwOf (tb1 (List.mem_of_getElem? (i := 101) rfl)) rfl
theorem kw_t1_102 : (Cond.fieldLink RX0 96 "KeyTurner$Secret" "olderGood" "I") ∈ WW := wwOf (tb1 (List.mem_of_getElem? (i := 102) rfl)) rfl
theorem kw_t1_123 : (Cond.superclass RX3 "java/lang/Object") ∈ WW := wwOf (tb1 (List.mem_of_getElem? (i := 123) rfl)) rfl
theorem kw_t1_124 : (Cond.fieldLink RX0 12 "KeyTurner$Course" "secret" "LKeyTurner$Secret;") ∈ WW := wwOf (tb1 (List.mem_of_getElem? (i := 124) rfl)) rfl
theorem kw_t1_125 : (Cond.fieldLink RX5 62 "KeyTurner$Course" "secret" "LKeyTurner$Secret;") ∈ WW := wwOf (tb1 (List.mem_of_getElem? (i := 125) rfl)) rfl
theorem kw_t1_126 : (Cond.fieldLink RX0 18 "KeyTurner$Course" "comes" "[I") ∈ WW := wwOf (tb1 (List.mem_of_getElem? (i := 126) rfl)) rfl
theorem kw_t1_127 : (Cond.fieldLink RX0 22 "KeyTurner$Course" "unanswered" "I") ∈ WW := wwOf (tb1 (List.mem_of_getElem? (i := 127) rfl)) rfl
theorem kw_t1_128 : (Cond.fieldLink RX0 26 "KeyTurner$Course" "turn" "I") ∈ WW := wwOf (tb1 (List.mem_of_getElem? (i := 128) rfl)) rfl
theorem kw_t1_129 : (Cond.fieldLink RX5 113 "KeyTurner$Course" "turn" "I") ∈ WW := wwOf (tb1 (List.mem_of_getElem? (i := 129) rfl)) rfl
theorem kw_t1_130 : (Cond.fieldLink RX0 29 "KeyTurner$Course" "step" "I") ∈ WW := wwOf (tb1 (List.mem_of_getElem? (i := 130) rfl)) rfl
theorem kw_t1_131 : (Cond.fieldLink RX5 158 "KeyTurner$Course" "step" "I") ∈ WW := wwOf (tb1 (List.mem_of_getElem? (i := 131) rfl)) rfl
theorem kw_t1_132 : (Cond.fieldLink RX0 32 "KeyTurner$Course" "stepBegan" "I") ∈ WW := wwOf (tb1 (List.mem_of_getElem? (i := 132) rfl)) rfl
theorem kw_t1_133 : (Cond.fieldLink RX5 177 "KeyTurner$Course" "stepBegan" "I") ∈ WW := wwOf (tb1 (List.mem_of_getElem? (i := 133) rfl)) rfl
theorem kw_t1_134 : (Cond.fieldLink RX0 35 "KeyTurner$Course" "late" "I") ∈ WW := wwOf (tb1 (List.mem_of_getElem? (i := 134) rfl)) rfl
theorem kw_t1_135 : (Cond.fieldLink RX5 168 "KeyTurner$Course" "late" "I") ∈ WW := wwOf (tb1 (List.mem_of_getElem? (i := 135) rfl)) rfl
theorem kw_t1_136 : (Cond.fieldLink RX0 38 "KeyTurner$Course" "latestLateAsk" "I") ∈ WW := wwOf (tb1 (List.mem_of_getElem? (i := 136) rfl)) rfl
theorem kw_t1_137 : (Cond.fieldLink RX0 41 "KeyTurner$Course" "handsOutLast" "Z") ∈ WW := wwOf (tb1 (List.mem_of_getElem? (i := 137) rfl)) rfl
theorem kw_t1_156 : (Cond.superclass RX0 "java/lang/Object") ∈ WW := wwOf (tb1 (List.mem_of_getElem? (i := 156) rfl)) rfl
theorem kw_t1_157 : (Cond.fieldLink RX5 11 "KeyTurner" "secrets" "[LKeyTurner$Secret;") ∈ WW := wwOf (tb1 (List.mem_of_getElem? (i := 157) rfl)) rfl
theorem kw_t1_158 : (Cond.fieldLink RX5 17 "KeyTurner" "courses" "[LKeyTurner$Course;") ∈ WW := wwOf (tb1 (List.mem_of_getElem? (i := 158) rfl)) rfl
theorem kw_t1_159 : (Cond.fieldLink RX5 24 "KeyTurner" "web" "LKeyTurner$Web;") ∈ WW := wwOf (tb1 (List.mem_of_getElem? (i := 159) rfl)) rfl
theorem kw_t1_160 : (Cond.fieldLink RX5 31 "KeyTurner" "people" "LKeyTurner$People;") ∈ WW := wwOf (tb1 (List.mem_of_getElem? (i := 160) rfl)) rfl
theorem kw_t1_161 : (Cond.fieldLink RX5 38 "KeyTurner" "log" "LKeyTurner$Log;") ∈ WW := wwOf (tb1 (List.mem_of_getElem? (i := 161) rfl)) rfl
theorem kw_t1_162 : (Cond.fieldLink RX5 42 "KeyTurner" "secretCount" "I") ∈ WW := wwOf (tb1 (List.mem_of_getElem? (i := 162) rfl)) rfl
theorem kw_t1_163 : (Cond.fieldLink RX5 46 "KeyTurner" "now" "I") ∈ WW := wwOf (tb1 (List.mem_of_getElem? (i := 163) rfl)) rfl
theorem kw_t1_164 : (Cond.fieldLink RX5 49 "KeyTurner" "quiet" "I") ∈ WW := wwOf (tb1 (List.mem_of_getElem? (i := 164) rfl)) rfl
theorem kw_t1_165 : (Cond.fieldLink RX5 52 "KeyTurner" "last" "I") ∈ WW := wwOf (tb1 (List.mem_of_getElem? (i := 165) rfl)) rfl
theorem kw_t1_166 : (Cond.fieldLink RX5 55 "KeyTurner" "passed" "I") ∈ WW := wwOf (tb1 (List.mem_of_getElem? (i := 166) rfl)) rfl
theorem kw_t1_167 : (Cond.fieldLink RX5 58 "KeyTurner" "failed" "I") ∈ WW := wwOf (tb1 (List.mem_of_getElem? (i := 167) rfl)) rfl
theorem kw_t1_190 : (Cond.superclass RX5 "java/lang/Object") ∈ WW := wwOf (tb1 (List.mem_of_getElem? (i := 190) rfl)) rfl
theorem kw_t1_191 : (Cond.methodLink RL 19 yX5_secret) ∈ WW := wwOf (tb1 (List.mem_of_getElem? (i := 191) rfl)) rfl
theorem kw_t1_192 : (Cond.instanceMethod yX5_secret) ∈ WW := wwOf (tb1 (List.mem_of_getElem? (i := 192) rfl)) rfl
theorem kw_t1_193 : (Cond.selects RX5 yX5_secret yX5_secret) ∈ WW := wwOf (tb1 (List.mem_of_getElem? (i := 193) rfl)) rfl
theorem kw_t1_194 : (Cond.code yX5_secret prog_1_method_2_code 6 (Option.some Jvm.ClassFile.FieldType.int)) ∈ WW := wwOf (tb1 (List.mem_of_getElem? (i := 194) rfl)) rfl
theorem kw_t1_195 : (Cond.methodLink RX5 66 yX3_open) ∈ WW := wwOf (tb1 (List.mem_of_getElem? (i := 195) rfl)) rfl
theorem kw_t1_196 : (Cond.instanceMethod yX3_open) ∈ WW := wwOf (tb1 (List.mem_of_getElem? (i := 196) rfl)) rfl
theorem kw_t1_197 : (Cond.selects RX3 yX3_open yX3_open) ∈ WW := wwOf (tb1 (List.mem_of_getElem? (i := 197) rfl)) rfl
theorem kw_t1_198 : (Cond.code yX3_open prog_5_method_2_code 6 (Option.none : Option Jvm.ClassFile.FieldType)) ∈ WW := wwOf (tb1 (List.mem_of_getElem? (i := 198) rfl)) rfl
theorem kw_t1_199 : (Cond.methodLink RL 24 yX5_needs) ∈ WW := wwOf (tb1 (List.mem_of_getElem? (i := 199) rfl)) rfl
theorem kw_t1_200 : (Cond.instanceMethod yX5_needs) ∈ WW := wwOf (tb1 (List.mem_of_getElem? (i := 200) rfl)) rfl
theorem kw_t1_201 : (Cond.selects RX5 yX5_needs yX5_needs) ∈ WW := wwOf (tb1 (List.mem_of_getElem? (i := 201) rfl)) rfl
theorem kw_t1_202 : (Cond.code yX5_needs prog_1_method_3_code 4 (Option.some Jvm.ClassFile.FieldType.boolean)) ∈ WW := wwOf (tb1 (List.mem_of_getElem? (i := 202) rfl)) rfl
theorem kw_t1_203 : (Cond.methodLink RX5 70 yX5_isSecret) ∈ WW := wwOf (tb1 (List.mem_of_getElem? (i := 203) rfl)) rfl
theorem kw_t1_205 : (Cond.instanceMethod yX5_isSecret) ∈ WW := wwOf (tb1 (List.mem_of_getElem? (i := 205) rfl)) rfl
theorem kw_t1_206 : (Cond.code yX5_isSecret prog_1_method_20_code 2 (Option.some Jvm.ClassFile.FieldType.boolean)) ∈ WW := wwOf (tb1 (List.mem_of_getElem? (i := 206) rfl)) rfl
theorem kw_t1_207 : (Cond.methodLink RX5 74 yX4_isDirect) ∈ WW := wwOf (tb1 (List.mem_of_getElem? (i := 207) rfl)) rfl
theorem kw_t1_208 : (Cond.instanceMethod yX4_isDirect) ∈ WW := wwOf (tb1 (List.mem_of_getElem? (i := 208) rfl)) rfl
theorem kw_t1_209 : (Cond.selects RX4 yX4_isDirect yX4_isDirect) ∈ WW := wwOf (tb1 (List.mem_of_getElem? (i := 209) rfl)) rfl
theorem kw_t1_210 : (Cond.code yX4_isDirect prog_6_method_2_code 3 (Option.some Jvm.ClassFile.FieldType.boolean)) ∈ WW := wwOf (tb1 (List.mem_of_getElem? (i := 210) rfl)) rfl
theorem kw_t1_212 : (Cond.static yX5_isIn) ∈ WW := wwOf (tb1 (List.mem_of_getElem? (i := 212) rfl)) rfl
theorem kw_t1_213 : (Cond.code yX5_isIn prog_1_method_19_code 2 (Option.some Jvm.ClassFile.FieldType.boolean)) ∈ WW := wwOf (tb1 (List.mem_of_getElem? (i := 213) rfl)) rfl
theorem kw_t1_214 : (Cond.methodLink RX5 78 yX4_isReached) ∈ WW := wwOf (tb1 (List.mem_of_getElem? (i := 214) rfl)) rfl
theorem kw_t1_215 : (Cond.instanceMethod yX4_isReached) ∈ WW := wwOf (tb1 (List.mem_of_getElem? (i := 215) rfl)) rfl
theorem kw_t1_216 : (Cond.selects RX4 yX4_isReached yX4_isReached) ∈ WW := wwOf (tb1 (List.mem_of_getElem? (i := 216) rfl)) rfl
theorem kw_t1_217 : (Cond.code yX4_isReached prog_6_method_4_code 7 (Option.some Jvm.ClassFile.FieldType.boolean)) ∈ WW := wwOf (tb1 (List.mem_of_getElem? (i := 217) rfl)) rfl
theorem kw_t1_218 : (Cond.methodLink RX5 81 yX4_put) ∈ WW := wwOf (tb1 (List.mem_of_getElem? (i := 218) rfl)) rfl
theorem kw_t1_219 : (Cond.instanceMethod yX4_put) ∈ WW := wwOf (tb1 (List.mem_of_getElem? (i := 219) rfl)) rfl
theorem kw_t1_220 : (Cond.selects RX4 yX4_put yX4_put) ∈ WW := wwOf (tb1 (List.mem_of_getElem? (i := 220) rfl)) rfl
theorem kw_t1_221 : (Cond.code yX4_put prog_6_method_3_code 5 (Option.none : Option Jvm.ClassFile.FieldType)) ∈ WW := wwOf (tb1 (List.mem_of_getElem? (i := 221) rfl)) rfl
theorem kw_t1_222 : (Cond.methodLink RL 29 yX5_delay) ∈ WW := wwOf (tb1 (List.mem_of_getElem? (i := 222) rfl)) rfl
theorem kw_t1_223 : (Cond.instanceMethod yX5_delay) ∈ WW := wwOf (tb1 (List.mem_of_getElem? (i := 223) rfl)) rfl
theorem kw_t1_224 : (Cond.selects RX5 yX5_delay yX5_delay) ∈ WW := wwOf (tb1 (List.mem_of_getElem? (i := 224) rfl)) rfl
theorem kw_t1_225 : (Cond.code yX5_delay prog_1_method_4_code 3 (Option.some Jvm.ClassFile.FieldType.boolean)) ∈ WW := wwOf (tb1 (List.mem_of_getElem? (i := 225) rfl)) rfl
theorem kw_t1_226 : (Cond.methodLink RL 34 yX5_quiet) ∈ WW := wwOf (tb1 (List.mem_of_getElem? (i := 226) rfl)) rfl
theorem kw_t1_227 : (Cond.instanceMethod yX5_quiet) ∈ WW := wwOf (tb1 (List.mem_of_getElem? (i := 227) rfl)) rfl
theorem kw_t1_228 : (Cond.selects RX5 yX5_quiet yX5_quiet) ∈ WW := wwOf (tb1 (List.mem_of_getElem? (i := 228) rfl)) rfl
theorem kw_t1_229 : (Cond.code yX5_quiet prog_1_method_5_code 3 (Option.some Jvm.ClassFile.FieldType.boolean)) ∈ WW := wwOf (tb1 (List.mem_of_getElem? (i := 229) rfl)) rfl
theorem kw_t1_230 : (Cond.methodLink RL 38 yX5_down) ∈ WW := wwOf (tb1 (List.mem_of_getElem? (i := 230) rfl)) rfl
theorem kw_t1_231 : (Cond.instanceMethod yX5_down) ∈ WW := wwOf (tb1 (List.mem_of_getElem? (i := 231) rfl)) rfl
theorem kw_t1_232 : (Cond.selects RX5 yX5_down yX5_down) ∈ WW := wwOf (tb1 (List.mem_of_getElem? (i := 232) rfl)) rfl
theorem kw_t1_233 : (Cond.code yX5_down prog_1_method_6_code 3 (Option.some Jvm.ClassFile.FieldType.boolean)) ∈ WW := wwOf (tb1 (List.mem_of_getElem? (i := 233) rfl)) rfl
theorem kw_t1_234 : (Cond.methodLink RX5 89 yX2_isDown) ∈ WW := wwOf (tb1 (List.mem_of_getElem? (i := 234) rfl)) rfl
theorem kw_t1_235 : (Cond.instanceMethod yX2_isDown) ∈ WW := wwOf (tb1 (List.mem_of_getElem? (i := 235) rfl)) rfl
theorem kw_t1_236 : (Cond.selects RX2 yX2_isDown yX2_isDown) ∈ WW := wwOf (tb1 (List.mem_of_getElem? (i := 236) rfl)) rfl
theorem kw_t1_237 : (Cond.code yX2_isDown prog_4_method_2_code 2 (Option.some Jvm.ClassFile.FieldType.boolean)) ∈ WW := wwOf (tb1 (List.mem_of_getElem? (i := 237) rfl)) rfl
theorem kw_t1_238 : (Cond.methodLink RL 43 yX5_turn) ∈ WW := wwOf (tb1 (List.mem_of_getElem? (i := 238) rfl)) rfl
theorem kw_t1_239 : (Cond.instanceMethod yX5_turn) ∈ WW := wwOf (tb1 (List.mem_of_getElem? (i := 239) rfl)) rfl
theorem kw_t2_0 : (Cond.selects RX5 yX5_turn yX5_turn) ∈ WW := wwOf (tb2 (List.mem_of_getElem? (i := 0) rfl)) rfl
theorem kw_t2_1 : (Cond.code yX5_turn prog_1_method_7_code 2 (Option.some Jvm.ClassFile.FieldType.int)) ∈ WW := wwOf (tb2 (List.mem_of_getElem? (i := 1) rfl)) rfl
theorem kw_t2_2 : (Cond.methodLink RX5 95 yX5_isHeldUp) ∈ WW := wwOf (tb2 (List.mem_of_getElem? (i := 2) rfl)) rfl
theorem kw_t2_4 : (Cond.instanceMethod yX5_isHeldUp) ∈ WW := wwOf (tb2 (List.mem_of_getElem? (i := 4) rfl)) rfl
theorem kw_t2_5 : (Cond.code yX5_isHeldUp prog_1_method_22_code 4 (Option.some Jvm.ClassFile.FieldType.boolean)) ∈ WW := wwOf (tb2 (List.mem_of_getElem? (i := 5) rfl)) rfl
theorem kw_t2_6 : (Cond.methodLink RX5 105 yX0_goesOn) ∈ WW := wwOf (tb2 (List.mem_of_getElem? (i := 6) rfl)) rfl
theorem kw_t2_7 : (Cond.instanceMethod yX0_goesOn) ∈ WW := wwOf (tb2 (List.mem_of_getElem? (i := 7) rfl)) rfl
theorem kw_t2_8 : (Cond.selects RX0 yX0_goesOn yX0_goesOn) ∈ WW := wwOf (tb2 (List.mem_of_getElem? (i := 8) rfl)) rfl
theorem kw_t2_9 : (Cond.code yX0_goesOn prog_2_method_2_code 1 (Option.some Jvm.ClassFile.FieldType.boolean)) ∈ WW := wwOf (tb2 (List.mem_of_getElem? (i := 9) rfl)) rfl
theorem kw_t2_10 : (Cond.methodLink RX5 98 yX5_beginTurn) ∈ WW := wwOf (tb2 (List.mem_of_getElem? (i := 10) rfl)) rfl
theorem kw_t2_12 : (Cond.instanceMethod yX5_beginTurn) ∈ WW := wwOf (tb2 (List.mem_of_getElem? (i := 12) rfl)) rfl
theorem kw_t2_13 : (Cond.code yX5_beginTurn prog_1_method_21_code 4 (Option.none : Option Jvm.ClassFile.FieldType)) ∈ WW := wwOf (tb2 (List.mem_of_getElem? (i := 13) rfl)) rfl
theorem kw_t2_14 : (Cond.methodLink RX5 211 yX3_makeVersion) ∈ WW := wwOf (tb2 (List.mem_of_getElem? (i := 14) rfl)) rfl
theorem kw_t2_15 : (Cond.instanceMethod yX3_makeVersion) ∈ WW := wwOf (tb2 (List.mem_of_getElem? (i := 15) rfl)) rfl
theorem kw_t2_16 : (Cond.selects RX3 yX3_makeVersion yX3_makeVersion) ∈ WW := wwOf (tb2 (List.mem_of_getElem? (i := 16) rfl)) rfl
theorem kw_t2_17 : (Cond.code yX3_makeVersion prog_5_method_3_code 2 (Option.none : Option Jvm.ClassFile.FieldType)) ∈ WW := wwOf (tb2 (List.mem_of_getElem? (i := 17) rfl)) rfl
theorem kw_t2_18 : (Cond.methodLink RX5 214 yX1_add) ∈ WW := wwOf (tb2 (List.mem_of_getElem? (i := 18) rfl)) rfl
theorem kw_t2_19 : (Cond.instanceMethod yX1_add) ∈ WW := wwOf (tb2 (List.mem_of_getElem? (i := 19) rfl)) rfl
theorem kw_t2_20 : (Cond.selects RX1 yX1_add yX1_add) ∈ WW := wwOf (tb2 (List.mem_of_getElem? (i := 20) rfl)) rfl
theorem kw_t2_21 : (Cond.code yX1_add prog_3_method_3_code 7 (Option.some Jvm.ClassFile.FieldType.int)) ∈ WW := wwOf (tb2 (List.mem_of_getElem? (i := 21) rfl)) rfl
theorem kw_t2_22 : (Cond.methodLink RX1 19 yX1_isKept) ∈ WW := wwOf (tb2 (List.mem_of_getElem? (i := 22) rfl)) rfl
theorem kw_t2_23 : (Cond.instanceMethod yX1_isKept) ∈ WW := wwOf (tb2 (List.mem_of_getElem? (i := 23) rfl)) rfl
theorem kw_t2_24 : (Cond.selects RX1 yX1_isKept yX1_isKept) ∈ WW := wwOf (tb2 (List.mem_of_getElem? (i := 24) rfl)) rfl
theorem kw_t2_25 : (Cond.code yX1_isKept prog_3_method_2_code 2 (Option.some Jvm.ClassFile.FieldType.boolean)) ∈ WW := wwOf (tb2 (List.mem_of_getElem? (i := 25) rfl)) rfl
theorem kw_t2_26 : (Cond.methodLink RX5 218 yX0_start) ∈ WW := wwOf (tb2 (List.mem_of_getElem? (i := 26) rfl)) rfl
theorem kw_t2_27 : (Cond.instanceMethod yX0_start) ∈ WW := wwOf (tb2 (List.mem_of_getElem? (i := 27) rfl)) rfl
theorem kw_t2_28 : (Cond.selects RX0 yX0_start yX0_start) ∈ WW := wwOf (tb2 (List.mem_of_getElem? (i := 28) rfl)) rfl
theorem kw_t2_29 : (Cond.code yX0_start prog_2_method_4_code 5 (Option.none : Option Jvm.ClassFile.FieldType)) ∈ WW := wwOf (tb2 (List.mem_of_getElem? (i := 29) rfl)) rfl
theorem kw_t2_30 : (Cond.methodLink RX0 54 yX0_beginStep) ∈ WW := wwOf (tb2 (List.mem_of_getElem? (i := 30) rfl)) rfl
theorem kw_t2_31 : (Cond.instanceMethod yX0_beginStep) ∈ WW := wwOf (tb2 (List.mem_of_getElem? (i := 31) rfl)) rfl
theorem kw_t2_32 : (Cond.selects RX0 yX0_beginStep yX0_beginStep) ∈ WW := wwOf (tb2 (List.mem_of_getElem? (i := 32) rfl)) rfl
theorem kw_t2_33 : (Cond.code yX0_beginStep prog_2_method_6_code 4 (Option.none : Option Jvm.ClassFile.FieldType)) ∈ WW := wwOf (tb2 (List.mem_of_getElem? (i := 33) rfl)) rfl
theorem kw_t2_34 : (Cond.methodLink RX0 61 yX0_write) ∈ WW := wwOf (tb2 (List.mem_of_getElem? (i := 34) rfl)) rfl
theorem kw_t2_35 : (Cond.instanceMethod yX0_write) ∈ WW := wwOf (tb2 (List.mem_of_getElem? (i := 35) rfl)) rfl
theorem kw_t2_36 : (Cond.selects RX0 yX0_write yX0_write) ∈ WW := wwOf (tb2 (List.mem_of_getElem? (i := 36) rfl)) rfl
theorem kw_t2_37 : (Cond.code yX0_write prog_2_method_7_code 5 (Option.none : Option Jvm.ClassFile.FieldType)) ∈ WW := wwOf (tb2 (List.mem_of_getElem? (i := 37) rfl)) rfl
theorem kw_t2_39 : (Cond.methodLink RX0 76 Lib.Math.max.name) ∈ WW := wwOf (tb2 (List.mem_of_getElem? (i := 39) rfl)) rfl
theorem kw_t2_40 : (Cond.static Lib.Math.max.name) ∈ WW := wwOf (tb2 (List.mem_of_getElem? (i := 40) rfl)) rfl
theorem kw_t2_41 : (Cond.code Lib.Math.max.name prog_11_method_65_code 2 (Option.some Jvm.ClassFile.FieldType.int)) ∈ WW := wwOf (tb2 (List.mem_of_getElem? (i := 41) rfl)) rfl
theorem kw_t2_42 : (Cond.methodLink RL 48 yX5_stolen) ∈ WW := wwOf (tb2 (List.mem_of_getElem? (i := 42) rfl)) rfl
theorem kw_t2_43 : (Cond.instanceMethod yX5_stolen) ∈ WW := wwOf (tb2 (List.mem_of_getElem? (i := 43) rfl)) rfl
theorem kw_t2_44 : (Cond.selects RX5 yX5_stolen yX5_stolen) ∈ WW := wwOf (tb2 (List.mem_of_getElem? (i := 44) rfl)) rfl
theorem kw_t2_45 : (Cond.code yX5_stolen prog_1_method_8_code 3 (Option.some Jvm.ClassFile.FieldType.int)) ∈ WW := wwOf (tb2 (List.mem_of_getElem? (i := 45) rfl)) rfl
theorem kw_t2_46 : (Cond.methodLink RX5 109 yX0_hurry) ∈ WW := wwOf (tb2 (List.mem_of_getElem? (i := 46) rfl)) rfl
theorem kw_t2_47 : (Cond.instanceMethod yX0_hurry) ∈ WW := wwOf (tb2 (List.mem_of_getElem? (i := 47) rfl)) rfl
theorem kw_t2_48 : (Cond.selects RX0 yX0_hurry yX0_hurry) ∈ WW := wwOf (tb2 (List.mem_of_getElem? (i := 48) rfl)) rfl
theorem kw_t2_49 : (Cond.code yX0_hurry prog_2_method_5_code 3 (Option.none : Option Jvm.ClassFile.FieldType)) ∈ WW := wwOf (tb2 (List.mem_of_getElem? (i := 49) rfl)) rfl
theorem kw_t2_50 : (Cond.methodLink RX5 116 yX1_markStolen) ∈ WW := wwOf (tb2 (List.mem_of_getElem? (i := 50) rfl)) rfl
theorem kw_t2_51 : (Cond.instanceMethod yX1_markStolen) ∈ WW := wwOf (tb2 (List.mem_of_getElem? (i := 51) rfl)) rfl
theorem kw_t2_52 : (Cond.selects RX1 yX1_markStolen yX1_markStolen) ∈ WW := wwOf (tb2 (List.mem_of_getElem? (i := 52) rfl)) rfl
theorem kw_t2_53 : (Cond.code yX1_markStolen prog_3_method_5_code 2 (Option.none : Option Jvm.ClassFile.FieldType)) ∈ WW := wwOf (tb2 (List.mem_of_getElem? (i := 53) rfl)) rfl
theorem kw_t2_54 : (Cond.methodLink RL 52 yX5_tick) ∈ WW := wwOf (tb2 (List.mem_of_getElem? (i := 54) rfl)) rfl
theorem kw_t2_55 : (Cond.instanceMethod yX5_tick) ∈ WW := wwOf (tb2 (List.mem_of_getElem? (i := 55) rfl)) rfl
theorem kw_t2_56 : (Cond.selects RX5 yX5_tick yX5_tick) ∈ WW := wwOf (tb2 (List.mem_of_getElem? (i := 56) rfl)) rfl
theorem kw_t2_57 : (Cond.code yX5_tick prog_1_method_9_code 5 (Option.some Jvm.ClassFile.FieldType.int)) ∈ WW := wwOf (tb2 (List.mem_of_getElem? (i := 57) rfl)) rfl
theorem kw_t2_58 : (Cond.constant RX5 120 (100000 : Int32)) ∈ WW := wwOf (tb2 (List.mem_of_getElem? (i := 58) rfl)) rfl
theorem kw_t2_59 : (Cond.methodLink RX5 121 yX5_nextStir) ∈ WW := wwOf (tb2 (List.mem_of_getElem? (i := 59) rfl)) rfl
theorem kw_t2_61 : (Cond.instanceMethod yX5_nextStir) ∈ WW := wwOf (tb2 (List.mem_of_getElem? (i := 61) rfl)) rfl
theorem kw_t2_62 : (Cond.code yX5_nextStir prog_1_method_23_code 4 (Option.some Jvm.ClassFile.FieldType.int)) ∈ WW := wwOf (tb2 (List.mem_of_getElem? (i := 62) rfl)) rfl
theorem kw_t2_63 : (Cond.methodLink RX5 222 yX0_nextLetter) ∈ WW := wwOf (tb2 (List.mem_of_getElem? (i := 63) rfl)) rfl
theorem kw_t2_64 : (Cond.instanceMethod yX0_nextLetter) ∈ WW := wwOf (tb2 (List.mem_of_getElem? (i := 64) rfl)) rfl
theorem kw_t2_65 : (Cond.selects RX0 yX0_nextLetter yX0_nextLetter) ∈ WW := wwOf (tb2 (List.mem_of_getElem? (i := 65) rfl)) rfl
theorem kw_t2_66 : (Cond.code yX0_nextLetter prog_2_method_13_code 5 (Option.some Jvm.ClassFile.FieldType.int)) ∈ WW := wwOf (tb2 (List.mem_of_getElem? (i := 66) rfl)) rfl
theorem kw_t2_67 : (Cond.methodLink RX0 82 yX2_isDown) ∈ WW := wwOf (tb2 (List.mem_of_getElem? (i := 67) rfl)) rfl
theorem kw_t2_68 : (Cond.methodLink RX0 106 Lib.Math.min.name) ∈ WW := wwOf (tb2 (List.mem_of_getElem? (i := 68) rfl)) rfl
theorem kw_t2_69 : (Cond.static Lib.Math.min.name) ∈ WW := wwOf (tb2 (List.mem_of_getElem? (i := 69) rfl)) rfl
theorem kw_t2_70 : (Cond.code Lib.Math.min.name prog_11_method_69_code 2 (Option.some Jvm.ClassFile.FieldType.int)) ∈ WW := wwOf (tb2 (List.mem_of_getElem? (i := 70) rfl)) rfl
theorem kw_t2_71 : (Cond.methodLink RX5 226 Lib.Math.min.name) ∈ WW := wwOf (tb2 (List.mem_of_getElem? (i := 71) rfl)) rfl
theorem kw_t2_72 : (Cond.methodLink RX5 232 yX0_nextStepEnd) ∈ WW := wwOf (tb2 (List.mem_of_getElem? (i := 72) rfl)) rfl
theorem kw_t2_73 : (Cond.instanceMethod yX0_nextStepEnd) ∈ WW := wwOf (tb2 (List.mem_of_getElem? (i := 73) rfl)) rfl
theorem kw_t2_74 : (Cond.selects RX0 yX0_nextStepEnd yX0_nextStepEnd) ∈ WW := wwOf (tb2 (List.mem_of_getElem? (i := 74) rfl)) rfl
theorem kw_t2_75 : (Cond.code yX0_nextStepEnd prog_2_method_14_code 5 (Option.some Jvm.ClassFile.FieldType.int)) ∈ WW := wwOf (tb2 (List.mem_of_getElem? (i := 75) rfl)) rfl
theorem kw_t2_76 : (Cond.methodLink RX0 99 yX0_endOfWait) ∈ WW := wwOf (tb2 (List.mem_of_getElem? (i := 76) rfl)) rfl
theorem kw_t2_77 : (Cond.instanceMethod yX0_endOfWait) ∈ WW := wwOf (tb2 (List.mem_of_getElem? (i := 77) rfl)) rfl
theorem kw_t2_78 : (Cond.selects RX0 yX0_endOfWait yX0_endOfWait) ∈ WW := wwOf (tb2 (List.mem_of_getElem? (i := 78) rfl)) rfl
theorem kw_t2_79 : (Cond.code yX0_endOfWait prog_2_method_11_code 3 (Option.some Jvm.ClassFile.FieldType.int)) ∈ WW := wwOf (tb2 (List.mem_of_getElem? (i := 79) rfl)) rfl
theorem kw_t2_80 : (Cond.methodLink RX0 109 yX0_isStepOver) ∈ WW := wwOf (tb2 (List.mem_of_getElem? (i := 80) rfl)) rfl
theorem kw_t2_81 : (Cond.instanceMethod yX0_isStepOver) ∈ WW := wwOf (tb2 (List.mem_of_getElem? (i := 81) rfl)) rfl
theorem kw_t2_82 : (Cond.selects RX0 yX0_isStepOver yX0_isStepOver) ∈ WW := wwOf (tb2 (List.mem_of_getElem? (i := 82) rfl)) rfl
theorem kw_t2_83 : (Cond.code yX0_isStepOver prog_2_method_10_code 4 (Option.some Jvm.ClassFile.FieldType.boolean)) ∈ WW := wwOf (tb2 (List.mem_of_getElem? (i := 83) rfl)) rfl
theorem kw_t2_84 : (Cond.methodLink RX0 102 yX0_goesOn) ∈ WW := wwOf (tb2 (List.mem_of_getElem? (i := 84) rfl)) rfl
theorem kw_t2_85 : (Cond.methodLink RX5 236 Lib.Math.max.name) ∈ WW := wwOf (tb2 (List.mem_of_getElem? (i := 85) rfl)) rfl
theorem kw_t2_86 : (Cond.methodLink RX5 125 yX0_takeLetters) ∈ WW := wwOf (tb2 (List.mem_of_getElem? (i := 86) rfl)) rfl
theorem kw_t2_87 : (Cond.instanceMethod yX0_takeLetters) ∈ WW := wwOf (tb2 (List.mem_of_getElem? (i := 87) rfl)) rfl
theorem kw_t2_88 : (Cond.selects RX0 yX0_takeLetters yX0_takeLetters) ∈ WW := wwOf (tb2 (List.mem_of_getElem? (i := 88) rfl)) rfl
theorem kw_t2_89 : (Cond.code yX0_takeLetters prog_2_method_8_code 4 (Option.none : Option Jvm.ClassFile.FieldType)) ∈ WW := wwOf (tb2 (List.mem_of_getElem? (i := 89) rfl)) rfl
theorem kw_t2_90 : (Cond.methodLink RX0 86 yX0_act) ∈ WW := wwOf (tb2 (List.mem_of_getElem? (i := 90) rfl)) rfl
theorem kw_t2_91 : (Cond.instanceMethod yX0_act) ∈ WW := wwOf (tb2 (List.mem_of_getElem? (i := 91) rfl)) rfl
theorem kw_t2_92 : (Cond.selects RX0 yX0_act yX0_act) ∈ WW := wwOf (tb2 (List.mem_of_getElem? (i := 92) rfl)) rfl
theorem kw_t2_93 : (Cond.code yX0_act prog_2_method_9_code 3 (Option.none : Option Jvm.ClassFile.FieldType)) ∈ WW := wwOf (tb2 (List.mem_of_getElem? (i := 93) rfl)) rfl
theorem kw_t2_94 : (Cond.methodLink RX5 128 yX5_goOn) ∈ WW := wwOf (tb2 (List.mem_of_getElem? (i := 94) rfl)) rfl
theorem kw_t2_96 : (Cond.instanceMethod yX5_goOn) ∈ WW := wwOf (tb2 (List.mem_of_getElem? (i := 96) rfl)) rfl
theorem kw_t2_97 : (Cond.code yX5_goOn prog_1_method_24_code 4 (Option.none : Option Jvm.ClassFile.FieldType)) ∈ WW := wwOf (tb2 (List.mem_of_getElem? (i := 97) rfl)) rfl
theorem kw_t2_98 : (Cond.methodLink RX5 239 yX0_isStepOver) ∈ WW := wwOf (tb2 (List.mem_of_getElem? (i := 98) rfl)) rfl
theorem kw_t2_99 : (Cond.methodLink RX5 243 yX0_followingStep) ∈ WW := wwOf (tb2 (List.mem_of_getElem? (i := 99) rfl)) rfl
theorem kw_t2_100 : (Cond.instanceMethod yX0_followingStep) ∈ WW := wwOf (tb2 (List.mem_of_getElem? (i := 100) rfl)) rfl
theorem kw_t2_101 : (Cond.selects RX0 yX0_followingStep yX0_followingStep) ∈ WW := wwOf (tb2 (List.mem_of_getElem? (i := 101) rfl)) rfl
theorem kw_t2_102 : (Cond.code yX0_followingStep prog_2_method_12_code 1 (Option.some Jvm.ClassFile.FieldType.int)) ∈ WW := wwOf (tb2 (List.mem_of_getElem? (i := 102) rfl)) rfl
theorem kw_t2_103 : (Cond.methodLink RX5 246 yX1_markOver) ∈ WW := wwOf (tb2 (List.mem_of_getElem? (i := 103) rfl)) rfl
theorem kw_t2_104 : (Cond.instanceMethod yX1_markOver) ∈ WW := wwOf (tb2 (List.mem_of_getElem? (i := 104) rfl)) rfl
theorem kw_t2_105 : (Cond.selects RX1 yX1_markOver yX1_markOver) ∈ WW := wwOf (tb2 (List.mem_of_getElem? (i := 105) rfl)) rfl
theorem kw_t2_106 : (Cond.code yX1_markOver prog_3_method_4_code 3 (Option.none : Option Jvm.ClassFile.FieldType)) ∈ WW := wwOf (tb2 (List.mem_of_getElem? (i := 106) rfl)) rfl
theorem kw_t2_107 : (Cond.methodLink RX5 250 yX0_beginStep) ∈ WW := wwOf (tb2 (List.mem_of_getElem? (i := 107) rfl)) rfl
theorem kw_t2_108 : (Cond.methodLink RL 56 yX5_ask) ∈ WW := wwOf (tb2 (List.mem_of_getElem? (i := 108) rfl)) rfl
theorem kw_t2_109 : (Cond.instanceMethod yX5_ask) ∈ WW := wwOf (tb2 (List.mem_of_getElem? (i := 109) rfl)) rfl
theorem kw_t2_110 : (Cond.selects RX5 yX5_ask yX5_ask) ∈ WW := wwOf (tb2 (List.mem_of_getElem? (i := 110) rfl)) rfl
theorem kw_t2_111 : (Cond.code yX5_ask prog_1_method_10_code 7 (Option.some Jvm.ClassFile.FieldType.int)) ∈ WW := wwOf (tb2 (List.mem_of_getElem? (i := 111) rfl)) rfl
theorem kw_t2_112 : (Cond.methodLink RX5 135 yX5_isIn) ∈ WW := wwOf (tb2 (List.mem_of_getElem? (i := 112) rfl)) rfl
theorem kw_t2_113 : (Cond.methodLink RX5 141 yX3_versionOf) ∈ WW := wwOf (tb2 (List.mem_of_getElem? (i := 113) rfl)) rfl
theorem kw_t2_114 : (Cond.instanceMethod yX3_versionOf) ∈ WW := wwOf (tb2 (List.mem_of_getElem? (i := 114) rfl)) rfl
theorem kw_t2_115 : (Cond.selects RX3 yX3_versionOf yX3_versionOf) ∈ WW := wwOf (tb2 (List.mem_of_getElem? (i := 115) rfl)) rfl
theorem kw_t2_116 : (Cond.code yX3_versionOf prog_5_method_4_code 2 (Option.some Jvm.ClassFile.FieldType.int)) ∈ WW := wwOf (tb2 (List.mem_of_getElem? (i := 116) rfl)) rfl
theorem kw_t2_118 : (Cond.methodLink RX5 144 yX5_opens) ∈ WW := wwOf (tb2 (List.mem_of_getElem? (i := 118) rfl)) rfl
theorem kw_t2_120 : (Cond.instanceMethod yX5_opens) ∈ WW := wwOf (tb2 (List.mem_of_getElem? (i := 120) rfl)) rfl
theorem kw_t2_121 : (Cond.code yX5_opens prog_1_method_25_code 4 (Option.some Jvm.ClassFile.FieldType.boolean)) ∈ WW := wwOf (tb2 (List.mem_of_getElem? (i := 121) rfl)) rfl
theorem kw_t2_122 : (Cond.methodLink RX5 180 yX3_isGoodAt) ∈ WW := wwOf (tb2 (List.mem_of_getElem? (i := 122) rfl)) rfl
theorem kw_t2_123 : (Cond.instanceMethod yX3_isGoodAt) ∈ WW := wwOf (tb2 (List.mem_of_getElem? (i := 123) rfl)) rfl
theorem kw_t2_124 : (Cond.selects RX3 yX3_isGoodAt yX3_isGoodAt) ∈ WW := wwOf (tb2 (List.mem_of_getElem? (i := 124) rfl)) rfl
theorem kw_t2_125 : (Cond.code yX3_isGoodAt prog_5_method_5_code 3 (Option.some Jvm.ClassFile.FieldType.boolean)) ∈ WW := wwOf (tb2 (List.mem_of_getElem? (i := 125) rfl)) rfl
theorem kw_t2_126 : (Cond.methodLink RX5 148 yX5_noteAsk) ∈ WW := wwOf (tb2 (List.mem_of_getElem? (i := 126) rfl)) rfl
theorem kw_t2_128 : (Cond.instanceMethod yX5_noteAsk) ∈ WW := wwOf (tb2 (List.mem_of_getElem? (i := 128) rfl)) rfl
theorem kw_t2_129 : (Cond.code yX5_noteAsk prog_1_method_26_code 5 (Option.some Jvm.ClassFile.FieldType.int)) ∈ WW := wwOf (tb2 (List.mem_of_getElem? (i := 129) rfl)) rfl
theorem kw_t2_130 : (Cond.methodLink RX5 254 yX0_notePass) ∈ WW := wwOf (tb2 (List.mem_of_getElem? (i := 130) rfl)) rfl
theorem kw_t2_131 : (Cond.instanceMethod yX0_notePass) ∈ WW := wwOf (tb2 (List.mem_of_getElem? (i := 131) rfl)) rfl
theorem kw_t2_132 : (Cond.selects RX0 yX0_notePass yX0_notePass) ∈ WW := wwOf (tb2 (List.mem_of_getElem? (i := 132) rfl)) rfl
theorem kw_t2_133 : (Cond.code yX0_notePass prog_2_method_15_code 4 (Option.none : Option Jvm.ClassFile.FieldType)) ∈ WW := wwOf (tb2 (List.mem_of_getElem? (i := 133) rfl)) rfl
theorem kw_t2_134 : (Cond.methodLink RL 61 yX5_stranger) ∈ WW := wwOf (tb2 (List.mem_of_getElem? (i := 134) rfl)) rfl
theorem kw_t2_135 : (Cond.instanceMethod yX5_stranger) ∈ WW := wwOf (tb2 (List.mem_of_getElem? (i := 135) rfl)) rfl
theorem kw_t2_136 : (Cond.selects RX5 yX5_stranger yX5_stranger) ∈ WW := wwOf (tb2 (List.mem_of_getElem? (i := 136) rfl)) rfl
theorem kw_t2_137 : (Cond.code yX5_stranger prog_1_method_11_code 6 (Option.some Jvm.ClassFile.FieldType.int)) ∈ WW := wwOf (tb2 (List.mem_of_getElem? (i := 137) rfl)) rfl
theorem kw_t2_138 : (Cond.methodLink RL 65 yX5_told) ∈ WW := wwOf (tb2 (List.mem_of_getElem? (i := 138) rfl)) rfl
theorem kw_t2_139 : (Cond.instanceMethod yX5_told) ∈ WW := wwOf (tb2 (List.mem_of_getElem? (i := 139) rfl)) rfl
theorem kw_t2_140 : (Cond.selects RX5 yX5_told yX5_told) ∈ WW := wwOf (tb2 (List.mem_of_getElem? (i := 140) rfl)) rfl
theorem kw_t2_141 : (Cond.code yX5_told prog_1_method_12_code 5 (Option.some Jvm.ClassFile.FieldType.int)) ∈ WW := wwOf (tb2 (List.mem_of_getElem? (i := 141) rfl)) rfl
theorem kw_t2_142 : (Cond.methodLink RX5 164 yX3_oldestGoodMade) ∈ WW := wwOf (tb2 (List.mem_of_getElem? (i := 142) rfl)) rfl
theorem kw_t2_143 : (Cond.instanceMethod yX3_oldestGoodMade) ∈ WW := wwOf (tb2 (List.mem_of_getElem? (i := 143) rfl)) rfl
theorem kw_t2_144 : (Cond.selects RX3 yX3_oldestGoodMade yX3_oldestGoodMade) ∈ WW := wwOf (tb2 (List.mem_of_getElem? (i := 144) rfl)) rfl
theorem kw_t2_145 : (Cond.code yX3_oldestGoodMade prog_5_method_6_code 1 (Option.some Jvm.ClassFile.FieldType.int)) ∈ WW := wwOf (tb2 (List.mem_of_getElem? (i := 145) rfl)) rfl
theorem kw_t2_146 : (Cond.methodLink RX5 171 yX3_lockedOut) ∈ WW := wwOf (tb2 (List.mem_of_getElem? (i := 146) rfl)) rfl
theorem kw_t2_147 : (Cond.instanceMethod yX3_lockedOut) ∈ WW := wwOf (tb2 (List.mem_of_getElem? (i := 147) rfl)) rfl
theorem kw_t2_148 : (Cond.selects RX3 yX3_lockedOut yX3_lockedOut) ∈ WW := wwOf (tb2 (List.mem_of_getElem? (i := 148) rfl)) rfl
theorem kw_t2_149 : (Cond.code yX3_lockedOut prog_5_method_7_code 3 (Option.some Jvm.ClassFile.FieldType.int)) ∈ WW := wwOf (tb2 (List.mem_of_getElem? (i := 149) rfl)) rfl
theorem kw_t2_150 : (Cond.methodLink RX5 174 yX0_letterCount) ∈ WW := wwOf (tb2 (List.mem_of_getElem? (i := 150) rfl)) rfl
theorem kw_t2_151 : (Cond.instanceMethod yX0_letterCount) ∈ WW := wwOf (tb2 (List.mem_of_getElem? (i := 151) rfl)) rfl
theorem kw_t2_152 : (Cond.selects RX0 yX0_letterCount yX0_letterCount) ∈ WW := wwOf (tb2 (List.mem_of_getElem? (i := 152) rfl)) rfl
theorem kw_t2_153 : (Cond.code yX0_letterCount prog_2_method_3_code 1 (Option.some Jvm.ClassFile.FieldType.int)) ∈ WW := wwOf (tb2 (List.mem_of_getElem? (i := 153) rfl)) rfl
theorem kw_t2_154 : (Cond.methodLink RX0 45 yJ6_bitCount_0f7a4) ∈ WW := wwOf (tb2 (List.mem_of_getElem? (i := 154) rfl)) rfl
theorem kw_t2_155 : (Cond.static yJ6_bitCount_0f7a4) ∈ WW := wwOf (tb2 (List.mem_of_getElem? (i := 155) rfl)) rfl
theorem kw_t2_156 : (Cond.code yJ6_bitCount_0f7a4 prog_10_method_49_code 1 (Option.some Jvm.ClassFile.FieldType.int)) ∈ WW := wwOf (tb2 (List.mem_of_getElem? (i := 156) rfl)) rfl
theorem kw_t2_157 : (Cond.constant RJ6 265 (1431655765 : Int32)) ∈ WW := wwOf (tb2 (List.mem_of_getElem? (i := 157) rfl)) rfl
theorem kw_t2_158 : (Cond.constant RJ6 266 (858993459 : Int32)) ∈ WW := wwOf (tb2 (List.mem_of_getElem? (i := 158) rfl)) rfl
theorem kw_t2_159 : (Cond.constant RJ6 267 (252645135 : Int32)) ∈ WW := wwOf (tb2 (List.mem_of_getElem? (i := 159) rfl)) rfl
theorem kw_t2_160 : (Cond.methodLink RL 69 yX5_has) ∈ WW := wwOf (tb2 (List.mem_of_getElem? (i := 160) rfl)) rfl
theorem kw_t2_161 : (Cond.instanceMethod yX5_has) ∈ WW := wwOf (tb2 (List.mem_of_getElem? (i := 161) rfl)) rfl
theorem kw_t2_162 : (Cond.selects RX5 yX5_has yX5_has) ∈ WW := wwOf (tb2 (List.mem_of_getElem? (i := 162) rfl)) rfl
theorem kw_t2_163 : (Cond.code yX5_has prog_1_method_13_code 3 (Option.some Jvm.ClassFile.FieldType.int)) ∈ WW := wwOf (tb2 (List.mem_of_getElem? (i := 163) rfl)) rfl
theorem kw_t2_164 : (Cond.methodLink RL 73 yX5_good) ∈ WW := wwOf (tb2 (List.mem_of_getElem? (i := 164) rfl)) rfl
theorem kw_t2_165 : (Cond.instanceMethod yX5_good) ∈ WW := wwOf (tb2 (List.mem_of_getElem? (i := 165) rfl)) rfl
theorem kw_t2_166 : (Cond.selects RX5 yX5_good yX5_good) ∈ WW := wwOf (tb2 (List.mem_of_getElem? (i := 166) rfl)) rfl
theorem kw_t2_167 : (Cond.code yX5_good prog_1_method_14_code 4 (Option.some Jvm.ClassFile.FieldType.int)) ∈ WW := wwOf (tb2 (List.mem_of_getElem? (i := 167) rfl)) rfl
theorem kw_t2_168 : (Cond.methodLink RL 77 yX5_plan) ∈ WW := wwOf (tb2 (List.mem_of_getElem? (i := 168) rfl)) rfl
theorem kw_t2_169 : (Cond.instanceMethod yX5_plan) ∈ WW := wwOf (tb2 (List.mem_of_getElem? (i := 169) rfl)) rfl
theorem kw_t2_170 : (Cond.selects RX5 yX5_plan yX5_plan) ∈ WW := wwOf (tb2 (List.mem_of_getElem? (i := 170) rfl)) rfl
theorem kw_t2_171 : (Cond.code yX5_plan prog_1_method_15_code 5 (Option.some Jvm.ClassFile.FieldType.int)) ∈ WW := wwOf (tb2 (List.mem_of_getElem? (i := 171) rfl)) rfl
theorem kw_t2_172 : (Cond.methodLink RX5 183 yX5_nextOfPlan) ∈ WW := wwOf (tb2 (List.mem_of_getElem? (i := 172) rfl)) rfl
theorem kw_t2_174 : (Cond.instanceMethod yX5_nextOfPlan) ∈ WW := wwOf (tb2 (List.mem_of_getElem? (i := 174) rfl)) rfl
theorem kw_t2_175 : (Cond.code yX5_nextOfPlan prog_1_method_27_code 5 (Option.some Jvm.ClassFile.FieldType.int)) ∈ WW := wwOf (tb2 (List.mem_of_getElem? (i := 175) rfl)) rfl
theorem kw_t2_176 : (Cond.methodLink RX5 261 yX3_endOfLife) ∈ WW := wwOf (tb2 (List.mem_of_getElem? (i := 176) rfl)) rfl
theorem kw_t2_177 : (Cond.instanceMethod yX3_endOfLife) ∈ WW := wwOf (tb2 (List.mem_of_getElem? (i := 177) rfl)) rfl
theorem kw_t2_178 : (Cond.selects RX3 yX3_endOfLife yX3_endOfLife) ∈ WW := wwOf (tb2 (List.mem_of_getElem? (i := 178) rfl)) rfl
theorem kw_t2_179 : (Cond.code yX3_endOfLife prog_5_method_8_code 1 (Option.some Jvm.ClassFile.FieldType.int)) ∈ WW := wwOf (tb2 (List.mem_of_getElem? (i := 179) rfl)) rfl
theorem kw_t2_180 : (Cond.methodLink RL 81 yX5_hangs) ∈ WW := wwOf (tb2 (List.mem_of_getElem? (i := 180) rfl)) rfl
theorem kw_t2_181 : (Cond.instanceMethod yX5_hangs) ∈ WW := wwOf (tb2 (List.mem_of_getElem? (i := 181) rfl)) rfl
theorem kw_t2_182 : (Cond.selects RX5 yX5_hangs yX5_hangs) ∈ WW := wwOf (tb2 (List.mem_of_getElem? (i := 182) rfl)) rfl
theorem kw_t2_183 : (Cond.code yX5_hangs prog_1_method_16_code 3 (Option.some Jvm.ClassFile.FieldType.boolean)) ∈ WW := wwOf (tb2 (List.mem_of_getElem? (i := 183) rfl)) rfl
theorem kw_t2_184 : (Cond.methodLink RL 91 yX5_count) ∈ WW := wwOf (tb2 (List.mem_of_getElem? (i := 184) rfl)) rfl
theorem kw_t2_185 : (Cond.instanceMethod yX5_count) ∈ WW := wwOf (tb2 (List.mem_of_getElem? (i := 185) rfl)) rfl
theorem kw_t2_186 : (Cond.selects RX5 yX5_count yX5_count) ∈ WW := wwOf (tb2 (List.mem_of_getElem? (i := 186) rfl)) rfl
theorem kw_t2_187 : (Cond.code yX5_count prog_1_method_18_code 2 (Option.some Jvm.ClassFile.FieldType.int)) ∈ WW := wwOf (tb2 (List.mem_of_getElem? (i := 187) rfl)) rfl
theorem kw_t2_188 : (Cond.methodLink RX5 202 yX5_turnsGoingOn) ∈ WW := wwOf (tb2 (List.mem_of_getElem? (i := 188) rfl)) rfl
theorem kw_t2_190 : (Cond.instanceMethod yX5_turnsGoingOn) ∈ WW := wwOf (tb2 (List.mem_of_getElem? (i := 190) rfl)) rfl
theorem kw_t2_191 : (Cond.code yX5_turnsGoingOn prog_1_method_28_code 3 (Option.some Jvm.ClassFile.FieldType.int)) ∈ WW := wwOf (tb2 (List.mem_of_getElem? (i := 191) rfl)) rfl
theorem kw_t2_192 : (Cond.methodLink RX5 205 yX5_lettersUnanswered) ∈ WW := wwOf (tb2 (List.mem_of_getElem? (i := 192) rfl)) rfl
theorem kw_t2_194 : (Cond.instanceMethod yX5_lettersUnanswered) ∈ WW := wwOf (tb2 (List.mem_of_getElem? (i := 194) rfl)) rfl
theorem kw_t2_195 : (Cond.code yX5_lettersUnanswered prog_1_method_29_code 3 (Option.some Jvm.ClassFile.FieldType.int)) ∈ WW := wwOf (tb2 (List.mem_of_getElem? (i := 195) rfl)) rfl
theorem kw_t2_196 : (Cond.methodLink RX5 208 yX5_secretsPastLife) ∈ WW := wwOf (tb2 (List.mem_of_getElem? (i := 196) rfl)) rfl
theorem kw_t2_198 : (Cond.instanceMethod yX5_secretsPastLife) ∈ WW := wwOf (tb2 (List.mem_of_getElem? (i := 198) rfl)) rfl
theorem kw_t2_199 : (Cond.code yX5_secretsPastLife prog_1_method_30_code 3 (Option.some Jvm.ClassFile.FieldType.int)) ∈ WW := wwOf (tb2 (List.mem_of_getElem? (i := 199) rfl)) rfl
theorem kw_t2_200 : (Cond.methodLink RL 85 yL_turned) ∈ WW := wwOf (tb2 (List.mem_of_getElem? (i := 200) rfl)) rfl
theorem kw_t2_201 : (Cond.static yL_turned) ∈ WW := wwOf (tb2 (List.mem_of_getElem? (i := 201) rfl)) rfl
theorem kw_t2_202 : (Cond.codeWith yL_turned method_3_code 5 (Option.some Jvm.ClassFile.FieldType.int) [((0 : Nat), (10 : Nat), (13 : Nat), (13 : Nat))]) ∈ WW := wwOf (tb2 (List.mem_of_getElem? (i := 202) rfl)) rfl
theorem kw_t2_203 : (Cond.classLink RL 13 "java/util/NoSuchElementException") ∈ WW := wwOf (tb2 (List.mem_of_getElem? (i := 203) rfl)) rfl
theorem kw_t2_204 : (Cond.methodLink RL 7 yX5_turned) ∈ WW := wwOf (tb2 (List.mem_of_getElem? (i := 204) rfl)) rfl
theorem kw_t2_205 : (Cond.instanceMethod yX5_turned) ∈ WW := wwOf (tb2 (List.mem_of_getElem? (i := 205) rfl)) rfl
theorem kw_t2_206 : (Cond.selects RX5 yX5_turned yX5_turned) ∈ WW := wwOf (tb2 (List.mem_of_getElem? (i := 206) rfl)) rfl
theorem kw_t2_207 : (Cond.code yX5_turned prog_1_method_17_code 3 (Option.some Jvm.ClassFile.FieldType.int)) ∈ WW := wwOf (tb2 (List.mem_of_getElem? (i := 207) rfl)) rfl
theorem kw_t2_208 : (Cond.methodLink RX5 186 yX1_isKept) ∈ WW := wwOf (tb2 (List.mem_of_getElem? (i := 208) rfl)) rfl
theorem kw_t2_209 : (Cond.classLink RX5 189 "java/util/NoSuchElementException") ∈ WW := wwOf (tb2 (List.mem_of_getElem? (i := 209) rfl)) rfl
theorem kw_t2_210 : (Cond.instantiable "java/util/NoSuchElementException" 6) ∈ WW := wwOf (tb2 (List.mem_of_getElem? (i := 210) rfl)) rfl
theorem kw_t2_218 : (Cond.selects "java/util/NoSuchElementException" (⟨"java/lang/Throwable", "fillInStackTrace", "(I)Ljava/lang/Throwable;"⟩ : MethodName) (⟨"java/lang/Throwable", "fillInStackTrace", "(I)Ljava/lang/Throwable;"⟩ : MethodName)) ∈ WW := wwOf (tb2 (List.mem_of_getElem? (i := 218) rfl)) rfl
theorem kw_t2_219 : (Cond.selects "java/util/NoSuchElementException" (⟨"java/lang/Throwable", "fillInStackTrace", "()Ljava/lang/Throwable;"⟩ : MethodName) (⟨"java/lang/Throwable", "fillInStackTrace", "()Ljava/lang/Throwable;"⟩ : MethodName)) ∈ WW := wwOf (tb2 (List.mem_of_getElem? (i := 219) rfl)) rfl
theorem kw_t2_220 : (Cond.lays "java/util/NoSuchElementException" "java/lang/Throwable" "cause" "Ljava/lang/Throwable;") ∈ WW := wwOf (tb2 (List.mem_of_getElem? (i := 220) rfl)) rfl
theorem kw_t2_221 : (Cond.lays "java/lang/Throwable" "java/lang/Throwable" "cause" "Ljava/lang/Throwable;") ∈ WW := wwOf (tb2 (List.mem_of_getElem? (i := 221) rfl)) rfl
theorem kw_t2_222 : (Cond.lays "java/util/NoSuchElementException" "java/lang/Throwable" "stackTrace" "[Ljava/lang/StackTraceElement;") ∈ WW := wwOf (tb2 (List.mem_of_getElem? (i := 222) rfl)) rfl
theorem kw_t2_223 : (Cond.lays "java/lang/Throwable" "java/lang/Throwable" "stackTrace" "[Ljava/lang/StackTraceElement;") ∈ WW := wwOf (tb2 (List.mem_of_getElem? (i := 223) rfl)) rfl
theorem kw_t2_224 : (Cond.lays "java/util/NoSuchElementException" "java/lang/Throwable" "suppressedExceptions" "Ljava/util/List;") ∈ WW := wwOf (tb2 (List.mem_of_getElem? (i := 224) rfl)) rfl
theorem kw_t2_225 : (Cond.lays "java/lang/Throwable" "java/lang/Throwable" "suppressedExceptions" "Ljava/util/List;") ∈ WW := wwOf (tb2 (List.mem_of_getElem? (i := 225) rfl)) rfl
theorem kw_t2_226 : (Cond.lays "java/util/NoSuchElementException" "java/lang/Throwable" "detailMessage" "Ljava/lang/String;") ∈ WW := wwOf (tb2 (List.mem_of_getElem? (i := 226) rfl)) rfl
theorem kw_t2_227 : (Cond.lays "java/lang/Throwable" "java/lang/Throwable" "detailMessage" "Ljava/lang/String;") ∈ WW := wwOf (tb2 (List.mem_of_getElem? (i := 227) rfl)) rfl
theorem kw_t2_228 : (Cond.lays "java/util/NoSuchElementException" "java/lang/Throwable" "backtrace" "Ljava/lang/Object;") ∈ WW := wwOf (tb2 (List.mem_of_getElem? (i := 228) rfl)) rfl
theorem kw_t2_229 : (Cond.lays "java/lang/Throwable" "java/lang/Throwable" "backtrace" "Ljava/lang/Object;") ∈ WW := wwOf (tb2 (List.mem_of_getElem? (i := 229) rfl)) rfl
theorem kw_t2_230 : (Cond.fieldLink "java/lang/Throwable" 198 "java/lang/Throwable" "backtrace" "Ljava/lang/Object;") ∈ WW := wwOf (tb2 (List.mem_of_getElem? (i := 230) rfl)) rfl
theorem kw_t2_231 : (Cond.superclass "java/lang/Throwable" "java/lang/Object") ∈ WW := wwOf (tb2 (List.mem_of_getElem? (i := 231) rfl)) rfl
theorem kw_t2_232 : (Cond.instanceMethod (⟨"java/lang/Throwable", "<init>", "()V"⟩ : MethodName)) ∈ WW := wwOf (tb2 (List.mem_of_getElem? (i := 232) rfl)) rfl
theorem kw_t2_233 : (Cond.code (⟨"java/lang/Throwable", "<init>", "()V"⟩ : MethodName) prog_14_method_1_code 1 (Option.none : Option Jvm.ClassFile.FieldType)) ∈ WW := wwOf (tb2 (List.mem_of_getElem? (i := 233) rfl)) rfl
theorem kw_t2_234 : (Cond.methodLink "java/lang/Throwable" 1 objectInit) ∈ WW := wwOf (tb2 (List.mem_of_getElem? (i := 234) rfl)) rfl
theorem kw_t2_235 : (Cond.fieldLink "java/lang/Throwable" 13 "java/lang/Throwable" "UNASSIGNED_STACK" "[Ljava/lang/StackTraceElement;") ∈ WW := wwOf (tb2 (List.mem_of_getElem? (i := 235) rfl)) rfl
theorem kw_t2_237 : (Cond.fieldLink "java/lang/Throwable" 20 "java/lang/Throwable" "SUPPRESSED_SENTINEL" "Ljava/util/List;") ∈ WW := wwOf (tb2 (List.mem_of_getElem? (i := 237) rfl)) rfl
theorem kw_t2_239 : (Cond.methodLink "java/lang/Throwable" 27 (⟨"java/lang/Throwable", "fillInStackTrace", "()Ljava/lang/Throwable;"⟩ : MethodName)) ∈ WW := wwOf (tb2 (List.mem_of_getElem? (i := 239) rfl)) rfl
theorem kw_t3_0 : (Cond.instanceMethod (⟨"java/lang/Throwable", "fillInStackTrace", "()Ljava/lang/Throwable;"⟩ : MethodName)) ∈ WW := wwOf (tb3 (List.mem_of_getElem? (i := 0) rfl)) rfl
theorem kw_t3_2 : (Cond.codeSync (⟨"java/lang/Throwable", "fillInStackTrace", "()Ljava/lang/Throwable;"⟩ : MethodName) prog_14_method_18_code 1 (Option.some (Jvm.ClassFile.FieldType.object "java/lang/Throwable"))) ∈ WW := wwOf (tb3 (List.mem_of_getElem? (i := 2) rfl)) rfl
theorem kw_t3_3 : (Cond.methodLink "java/lang/Throwable" 202 (⟨"java/lang/Throwable", "fillInStackTrace", "(I)Ljava/lang/Throwable;"⟩ : MethodName)) ∈ WW := wwOf (tb3 (List.mem_of_getElem? (i := 3) rfl)) rfl
theorem kw_t3_5 : (Cond.instanceMethod (⟨"java/lang/Throwable", "fillInStackTrace", "(I)Ljava/lang/Throwable;"⟩ : MethodName)) ∈ WW := wwOf (tb3 (List.mem_of_getElem? (i := 5) rfl)) rfl
theorem kw_t3_6 : (Cond.instantiable "java/lang/Throwable" 6) ∈ WW := wwOf (tb3 (List.mem_of_getElem? (i := 6) rfl)) rfl
theorem kw_t3_7 : (Cond.native (⟨"java/lang/Throwable", "fillInStackTrace", "(I)Ljava/lang/Throwable;"⟩ : MethodName)) ∈ WW := wwOf (tb3 (List.mem_of_getElem? (i := 7) rfl)) rfl
theorem kw_t3_9 : (Cond.methodLink RX5 193 (⟨"java/util/NoSuchElementException", "<init>", "(Ljava/lang/String;)V"⟩ : MethodName)) ∈ WW := wwOf (tb3 (List.mem_of_getElem? (i := 9) rfl)) rfl
theorem kw_t3_10 : (Cond.instanceMethod (⟨"java/util/NoSuchElementException", "<init>", "(Ljava/lang/String;)V"⟩ : MethodName)) ∈ WW := wwOf (tb3 (List.mem_of_getElem? (i := 10) rfl)) rfl
theorem kw_t3_11 : (Cond.code (⟨"java/util/NoSuchElementException", "<init>", "(Ljava/lang/String;)V"⟩ : MethodName) prog_15_method_4_code 2 (Option.none : Option Jvm.ClassFile.FieldType)) ∈ WW := wwOf (tb3 (List.mem_of_getElem? (i := 11) rfl)) rfl
theorem kw_t3_12 : (Cond.methodLink "java/util/NoSuchElementException" 13 (⟨"java/lang/RuntimeException", "<init>", "(Ljava/lang/String;)V"⟩ : MethodName)) ∈ WW := wwOf (tb3 (List.mem_of_getElem? (i := 12) rfl)) rfl
theorem kw_t3_13 : (Cond.instanceMethod (⟨"java/lang/RuntimeException", "<init>", "(Ljava/lang/String;)V"⟩ : MethodName)) ∈ WW := wwOf (tb3 (List.mem_of_getElem? (i := 13) rfl)) rfl
theorem kw_t3_14 : (Cond.code (⟨"java/lang/RuntimeException", "<init>", "(Ljava/lang/String;)V"⟩ : MethodName) prog_12_method_2_code 2 (Option.none : Option Jvm.ClassFile.FieldType)) ∈ WW := wwOf (tb3 (List.mem_of_getElem? (i := 14) rfl)) rfl
theorem kw_t3_15 : (Cond.methodLink "java/lang/RuntimeException" 7 (⟨"java/lang/Exception", "<init>", "(Ljava/lang/String;)V"⟩ : MethodName)) ∈ WW := wwOf (tb3 (List.mem_of_getElem? (i := 15) rfl)) rfl
theorem kw_t3_16 : (Cond.instanceMethod (⟨"java/lang/Exception", "<init>", "(Ljava/lang/String;)V"⟩ : MethodName)) ∈ WW := wwOf (tb3 (List.mem_of_getElem? (i := 16) rfl)) rfl
theorem kw_t3_17 : (Cond.code (⟨"java/lang/Exception", "<init>", "(Ljava/lang/String;)V"⟩ : MethodName) prog_9_method_2_code 2 (Option.none : Option Jvm.ClassFile.FieldType)) ∈ WW := wwOf (tb3 (List.mem_of_getElem? (i := 17) rfl)) rfl
theorem kw_t3_18 : (Cond.methodLink "java/lang/Exception" 7 (⟨"java/lang/Throwable", "<init>", "(Ljava/lang/String;)V"⟩ : MethodName)) ∈ WW := wwOf (tb3 (List.mem_of_getElem? (i := 18) rfl)) rfl
theorem kw_t3_19 : (Cond.instanceMethod (⟨"java/lang/Throwable", "<init>", "(Ljava/lang/String;)V"⟩ : MethodName)) ∈ WW := wwOf (tb3 (List.mem_of_getElem? (i := 19) rfl)) rfl
theorem kw_t3_20 : (Cond.code (⟨"java/lang/Throwable", "<init>", "(Ljava/lang/String;)V"⟩ : MethodName) prog_14_method_2_code 2 (Option.none : Option Jvm.ClassFile.FieldType)) ∈ WW := wwOf (tb3 (List.mem_of_getElem? (i := 20) rfl)) rfl
theorem kw_t3_22 : (Cond.fieldLink "java/lang/Throwable" 31 "java/lang/Throwable" "detailMessage" "Ljava/lang/String;") ∈ WW := wwOf (tb3 (List.mem_of_getElem? (i := 22) rfl)) rfl
theorem kw_t3_23 : (Cond.fieldLink "java/lang/Throwable" 7 "java/lang/Throwable" "cause" "Ljava/lang/Throwable;") ∈ WW := wwOf (tb3 (List.mem_of_getElem? (i := 23) rfl)) rfl
theorem kw_t3_24 : (Cond.fieldLink "java/lang/Throwable" 17 "java/lang/Throwable" "stackTrace" "[Ljava/lang/StackTraceElement;") ∈ WW := wwOf (tb3 (List.mem_of_getElem? (i := 24) rfl)) rfl
theorem kw_t3_25 : (Cond.fieldLink "java/lang/Throwable" 24 "java/lang/Throwable" "suppressedExceptions" "Ljava/util/List;") ∈ WW := wwOf (tb3 (List.mem_of_getElem? (i := 25) rfl)) rfl
theorem kw_t3_33 : (Cond.superclass "java/util/NoSuchElementException" "java/lang/RuntimeException") ∈ WW := wwOf (tb3 (List.mem_of_getElem? (i := 33) rfl)) rfl
theorem kw_t3_34 : (Cond.arrayClass Jvm.ClassFile.FieldType.byte) ∈ WW := wwOf (tb3 (List.mem_of_getElem? (i := 34) rfl)) rfl
theorem kw_t3_35 : (Cond.classLink RL 16 RX6) ∈ WW := wwOf (tb3 (List.mem_of_getElem? (i := 35) rfl)) rfl
theorem kw_t3_36 : (Cond.instantiable RX6 43) ∈ WW := wwOf (tb3 (List.mem_of_getElem? (i := 36) rfl)) rfl
theorem kw_t3_37 : (Cond.methodLink RL 18 yX6_init) ∈ WW := wwOf (tb3 (List.mem_of_getElem? (i := 37) rfl)) rfl
theorem kw_t3_38 : (Cond.instanceMethod yX6_init) ∈ WW := wwOf (tb3 (List.mem_of_getElem? (i := 38) rfl)) rfl
theorem kw_t3_39 : (Cond.code yX6_init prog_8_method_1_code 2 (Option.none : Option Jvm.ClassFile.FieldType)) ∈ WW := wwOf (tb3 (List.mem_of_getElem? (i := 39) rfl)) rfl
theorem kw_t3_40 : (Cond.methodLink RX6 1 objectInit) ∈ WW := wwOf (tb3 (List.mem_of_getElem? (i := 40) rfl)) rfl
theorem kw_t3_41 : (Cond.fieldLink RX6 120 "KeyTurnerModel" "thrown" "I") ∈ WW := wwOf (tb3 (List.mem_of_getElem? (i := 41) rfl)) rfl
theorem kw_t3_42 : (Cond.fieldLink RX6 130 "KeyTurnerModel" "now" "I") ∈ WW := wwOf (tb3 (List.mem_of_getElem? (i := 42) rfl)) rfl
theorem kw_t3_43 : (Cond.fieldLink RX6 123 "KeyTurnerModel" "secrets" "I") ∈ WW := wwOf (tb3 (List.mem_of_getElem? (i := 43) rfl)) rfl
theorem kw_t3_44 : (Cond.fieldLink RX6 141 "KeyTurnerModel" "letters" "I") ∈ WW := wwOf (tb3 (List.mem_of_getElem? (i := 44) rfl)) rfl
theorem kw_t3_45 : (Cond.fieldLink RX6 179 "KeyTurnerModel" "turns" "I") ∈ WW := wwOf (tb3 (List.mem_of_getElem? (i := 45) rfl)) rfl
theorem kw_t3_46 : (Cond.fieldLink RX6 192 "KeyTurnerModel" "passed" "I") ∈ WW := wwOf (tb3 (List.mem_of_getElem? (i := 46) rfl)) rfl
theorem kw_t3_47 : (Cond.fieldLink RX6 189 "KeyTurnerModel" "failed" "I") ∈ WW := wwOf (tb3 (List.mem_of_getElem? (i := 47) rfl)) rfl
theorem kw_t3_48 : (Cond.fieldLink RX6 7 "KeyTurnerModel" "quiet" "I") ∈ WW := wwOf (tb3 (List.mem_of_getElem? (i := 48) rfl)) rfl
theorem kw_t3_49 : (Cond.fieldLink RX6 13 "KeyTurnerModel" "last" "I") ∈ WW := wwOf (tb3 (List.mem_of_getElem? (i := 49) rfl)) rfl
theorem kw_t3_50 : (Cond.fieldLink RX6 16 "KeyTurnerModel" "kind" "[I") ∈ WW := wwOf (tb3 (List.mem_of_getElem? (i := 50) rfl)) rfl
theorem kw_t3_51 : (Cond.fieldLink RX6 20 "KeyTurnerModel" "holders" "[I") ∈ WW := wwOf (tb3 (List.mem_of_getElem? (i := 51) rfl)) rfl
theorem kw_t3_52 : (Cond.fieldLink RX6 23 "KeyTurnerModel" "checkers" "[I") ∈ WW := wwOf (tb3 (List.mem_of_getElem? (i := 52) rfl)) rfl
theorem kw_t3_53 : (Cond.fieldLink RX6 26 "KeyTurnerModel" "life" "[I") ∈ WW := wwOf (tb3 (List.mem_of_getElem? (i := 53) rfl)) rfl
theorem kw_t3_54 : (Cond.fieldLink RX6 29 "KeyTurnerModel" "latest" "[I") ∈ WW := wwOf (tb3 (List.mem_of_getElem? (i := 54) rfl)) rfl
theorem kw_t3_55 : (Cond.fieldLink RX6 32 "KeyTurnerModel" "made" "[I") ∈ WW := wwOf (tb3 (List.mem_of_getElem? (i := 55) rfl)) rfl
theorem kw_t3_56 : (Cond.fieldLink RX6 35 "KeyTurnerModel" "step" "[I") ∈ WW := wwOf (tb3 (List.mem_of_getElem? (i := 56) rfl)) rfl
theorem kw_t3_57 : (Cond.fieldLink RX6 38 "KeyTurnerModel" "began" "[I") ∈ WW := wwOf (tb3 (List.mem_of_getElem? (i := 57) rfl)) rfl
theorem kw_t3_58 : (Cond.fieldLink RX6 41 "KeyTurnerModel" "late" "[I") ∈ WW := wwOf (tb3 (List.mem_of_getElem? (i := 58) rfl)) rfl
theorem kw_t3_59 : (Cond.fieldLink RX6 44 "KeyTurnerModel" "lastOld" "[I") ∈ WW := wwOf (tb3 (List.mem_of_getElem? (i := 59) rfl)) rfl
theorem kw_t3_60 : (Cond.fieldLink RX6 47 "KeyTurnerModel" "open" "[I") ∈ WW := wwOf (tb3 (List.mem_of_getElem? (i := 60) rfl)) rfl
theorem kw_t3_61 : (Cond.fieldLink RX6 50 "KeyTurnerModel" "turnOf" "[I") ∈ WW := wwOf (tb3 (List.mem_of_getElem? (i := 61) rfl)) rfl
theorem kw_t3_62 : (Cond.fieldLink RX6 53 "KeyTurnerModel" "isQuick" "[Z") ∈ WW := wwOf (tb3 (List.mem_of_getElem? (i := 62) rfl)) rfl
theorem kw_t3_63 : (Cond.fieldLink RX6 57 "KeyTurnerModel" "needs" "[Z") ∈ WW := wwOf (tb3 (List.mem_of_getElem? (i := 63) rfl)) rfl
theorem kw_t3_64 : (Cond.fieldLink RX6 60 "KeyTurnerModel" "isDown" "[Z") ∈ WW := wwOf (tb3 (List.mem_of_getElem? (i := 64) rfl)) rfl
theorem kw_t3_65 : (Cond.fieldLink RX6 63 "KeyTurnerModel" "has" "[I") ∈ WW := wwOf (tb3 (List.mem_of_getElem? (i := 65) rfl)) rfl
theorem kw_t3_66 : (Cond.fieldLink RX6 66 "KeyTurnerModel" "oneGood" "[I") ∈ WW := wwOf (tb3 (List.mem_of_getElem? (i := 66) rfl)) rfl
theorem kw_t3_67 : (Cond.fieldLink RX6 69 "KeyTurnerModel" "otherGood" "[I") ∈ WW := wwOf (tb3 (List.mem_of_getElem? (i := 67) rfl)) rfl
theorem kw_t3_68 : (Cond.fieldLink RX6 72 "KeyTurnerModel" "delay" "[I") ∈ WW := wwOf (tb3 (List.mem_of_getElem? (i := 68) rfl)) rfl
theorem kw_t3_69 : (Cond.fieldLink RX6 75 "KeyTurnerModel" "oneMade" "[I") ∈ WW := wwOf (tb3 (List.mem_of_getElem? (i := 69) rfl)) rfl
theorem kw_t3_70 : (Cond.fieldLink RX6 78 "KeyTurnerModel" "otherMade" "[I") ∈ WW := wwOf (tb3 (List.mem_of_getElem? (i := 70) rfl)) rfl
theorem kw_t3_71 : (Cond.fieldLink RX6 81 "KeyTurnerModel" "toWhom" "[I") ∈ WW := wwOf (tb3 (List.mem_of_getElem? (i := 71) rfl)) rfl
theorem kw_t3_72 : (Cond.fieldLink RX6 84 "KeyTurnerModel" "ofSecret" "[I") ∈ WW := wwOf (tb3 (List.mem_of_getElem? (i := 72) rfl)) rfl
theorem kw_t3_73 : (Cond.fieldLink RX6 87 "KeyTurnerModel" "comes" "[I") ∈ WW := wwOf (tb3 (List.mem_of_getElem? (i := 73) rfl)) rfl
theorem kw_t3_74 : (Cond.fieldLink RX6 90 "KeyTurnerModel" "version" "[I") ∈ WW := wwOf (tb3 (List.mem_of_getElem? (i := 74) rfl)) rfl
theorem kw_t3_75 : (Cond.fieldLink RX6 93 "KeyTurnerModel" "versionMade" "[I") ∈ WW := wwOf (tb3 (List.mem_of_getElem? (i := 75) rfl)) rfl
theorem kw_t3_76 : (Cond.fieldLink RX6 96 "KeyTurnerModel" "isOnly" "[Z") ∈ WW := wwOf (tb3 (List.mem_of_getElem? (i := 76) rfl)) rfl
theorem kw_t3_77 : (Cond.fieldLink RX6 99 "KeyTurnerModel" "turnSecret" "[I") ∈ WW := wwOf (tb3 (List.mem_of_getElem? (i := 77) rfl)) rfl
theorem kw_t3_78 : (Cond.fieldLink RX6 102 "KeyTurnerModel" "turnVersion" "[I") ∈ WW := wwOf (tb3 (List.mem_of_getElem? (i := 78) rfl)) rfl
theorem kw_t3_79 : (Cond.fieldLink RX6 105 "KeyTurnerModel" "turnBegan" "[I") ∈ WW := wwOf (tb3 (List.mem_of_getElem? (i := 79) rfl)) rfl
theorem kw_t3_80 : (Cond.fieldLink RX6 108 "KeyTurnerModel" "turnOver" "[I") ∈ WW := wwOf (tb3 (List.mem_of_getElem? (i := 80) rfl)) rfl
theorem kw_t3_81 : (Cond.fieldLink RX6 111 "KeyTurnerModel" "turnStolen" "[Z") ∈ WW := wwOf (tb3 (List.mem_of_getElem? (i := 81) rfl)) rfl
theorem kw_t3_82 : (Cond.fieldLink RX6 114 "KeyTurnerModel" "seen" "[Z") ∈ WW := wwOf (tb3 (List.mem_of_getElem? (i := 82) rfl)) rfl
theorem kw_t3_83 : (Cond.fieldLink RX6 117 "KeyTurnerModel" "in" "[Z") ∈ WW := wwOf (tb3 (List.mem_of_getElem? (i := 83) rfl)) rfl
theorem kw_t3_170 : (Cond.superclass RX6 "java/lang/Object") ∈ WW := wwOf (tb3 (List.mem_of_getElem? (i := 170) rfl)) rfl
theorem kw_t3_171 : (Cond.arrayClass Jvm.ClassFile.FieldType.boolean) ∈ WW := wwOf (tb3 (List.mem_of_getElem? (i := 171) rfl)) rfl
theorem kw_t3_172 : (Cond.methodLink RL 23 yX6_secret) ∈ WW := wwOf (tb3 (List.mem_of_getElem? (i := 172) rfl)) rfl
theorem kw_t3_173 : (Cond.instanceMethod yX6_secret) ∈ WW := wwOf (tb3 (List.mem_of_getElem? (i := 173) rfl)) rfl
theorem kw_t3_174 : (Cond.selects RX6 yX6_secret yX6_secret) ∈ WW := wwOf (tb3 (List.mem_of_getElem? (i := 174) rfl)) rfl
theorem kw_t3_175 : (Cond.code yX6_secret prog_8_method_6_code 7 (Option.some Jvm.ClassFile.FieldType.int)) ∈ WW := wwOf (tb3 (List.mem_of_getElem? (i := 175) rfl)) rfl
theorem kw_t3_176 : (Cond.methodLink RX6 126 yX6_isIn) ∈ WW := wwOf (tb3 (List.mem_of_getElem? (i := 176) rfl)) rfl
theorem kw_t3_177 : (Cond.static yX6_isIn) ∈ WW := wwOf (tb3 (List.mem_of_getElem? (i := 177) rfl)) rfl
theorem kw_t3_178 : (Cond.code yX6_isIn prog_8_method_3_code 3 (Option.some Jvm.ClassFile.FieldType.boolean)) ∈ WW := wwOf (tb3 (List.mem_of_getElem? (i := 178) rfl)) rfl
theorem kw_t3_179 : (Cond.methodLink RL 28 yX6_needs) ∈ WW := wwOf (tb3 (List.mem_of_getElem? (i := 179) rfl)) rfl
theorem kw_t3_180 : (Cond.instanceMethod yX6_needs) ∈ WW := wwOf (tb3 (List.mem_of_getElem? (i := 180) rfl)) rfl
theorem kw_t3_181 : (Cond.selects RX6 yX6_needs yX6_needs) ∈ WW := wwOf (tb3 (List.mem_of_getElem? (i := 181) rfl)) rfl
theorem kw_t3_182 : (Cond.code yX6_needs prog_8_method_8_code 4 (Option.some Jvm.ClassFile.FieldType.boolean)) ∈ WW := wwOf (tb3 (List.mem_of_getElem? (i := 182) rfl)) rfl
theorem kw_t3_183 : (Cond.methodLink RX6 133 yX6_isSecret) ∈ WW := wwOf (tb3 (List.mem_of_getElem? (i := 183) rfl)) rfl
theorem kw_t3_185 : (Cond.instanceMethod yX6_isSecret) ∈ WW := wwOf (tb3 (List.mem_of_getElem? (i := 185) rfl)) rfl
theorem kw_t3_186 : (Cond.code yX6_isSecret prog_8_method_4_code 2 (Option.some Jvm.ClassFile.FieldType.boolean)) ∈ WW := wwOf (tb3 (List.mem_of_getElem? (i := 186) rfl)) rfl
theorem kw_t3_187 : (Cond.methodLink RX6 137 yX6_hangsOn) ∈ WW := wwOf (tb3 (List.mem_of_getElem? (i := 187) rfl)) rfl
theorem kw_t3_189 : (Cond.instanceMethod yX6_hangsOn) ∈ WW := wwOf (tb3 (List.mem_of_getElem? (i := 189) rfl)) rfl
theorem kw_t3_190 : (Cond.code yX6_hangsOn prog_8_method_7_code 6 (Option.some Jvm.ClassFile.FieldType.boolean)) ∈ WW := wwOf (tb3 (List.mem_of_getElem? (i := 190) rfl)) rfl
theorem kw_t3_191 : (Cond.methodLink RL 84 yX6_hangs) ∈ WW := wwOf (tb3 (List.mem_of_getElem? (i := 191) rfl)) rfl
theorem kw_t3_192 : (Cond.instanceMethod yX6_hangs) ∈ WW := wwOf (tb3 (List.mem_of_getElem? (i := 192) rfl)) rfl
theorem kw_t3_193 : (Cond.selects RX6 yX6_hangs yX6_hangs) ∈ WW := wwOf (tb3 (List.mem_of_getElem? (i := 193) rfl)) rfl
theorem kw_t3_194 : (Cond.code yX6_hangs prog_8_method_9_code 3 (Option.some Jvm.ClassFile.FieldType.boolean)) ∈ WW := wwOf (tb3 (List.mem_of_getElem? (i := 194) rfl)) rfl
theorem kw_t3_195 : (Cond.methodLink RL 80 yX6_plan) ∈ WW := wwOf (tb3 (List.mem_of_getElem? (i := 195) rfl)) rfl
theorem kw_t3_196 : (Cond.instanceMethod yX6_plan) ∈ WW := wwOf (tb3 (List.mem_of_getElem? (i := 196) rfl)) rfl
theorem kw_t3_197 : (Cond.selects RX6 yX6_plan yX6_plan) ∈ WW := wwOf (tb3 (List.mem_of_getElem? (i := 197) rfl)) rfl
theorem kw_t3_198 : (Cond.code yX6_plan prog_8_method_10_code 7 (Option.some Jvm.ClassFile.FieldType.int)) ∈ WW := wwOf (tb3 (List.mem_of_getElem? (i := 198) rfl)) rfl
theorem kw_t3_199 : (Cond.methodLink RL 33 yX6_delay) ∈ WW := wwOf (tb3 (List.mem_of_getElem? (i := 199) rfl)) rfl
theorem kw_t3_200 : (Cond.instanceMethod yX6_delay) ∈ WW := wwOf (tb3 (List.mem_of_getElem? (i := 200) rfl)) rfl
theorem kw_t3_201 : (Cond.selects RX6 yX6_delay yX6_delay) ∈ WW := wwOf (tb3 (List.mem_of_getElem? (i := 201) rfl)) rfl
theorem kw_t3_202 : (Cond.code yX6_delay prog_8_method_11_code 3 (Option.some Jvm.ClassFile.FieldType.boolean)) ∈ WW := wwOf (tb3 (List.mem_of_getElem? (i := 202) rfl)) rfl
theorem kw_t3_203 : (Cond.methodLink RL 37 yX6_quiet) ∈ WW := wwOf (tb3 (List.mem_of_getElem? (i := 203) rfl)) rfl
theorem kw_t3_204 : (Cond.instanceMethod yX6_quiet) ∈ WW := wwOf (tb3 (List.mem_of_getElem? (i := 204) rfl)) rfl
theorem kw_t3_205 : (Cond.selects RX6 yX6_quiet yX6_quiet) ∈ WW := wwOf (tb3 (List.mem_of_getElem? (i := 205) rfl)) rfl
theorem kw_t3_206 : (Cond.code yX6_quiet prog_8_method_12_code 3 (Option.some Jvm.ClassFile.FieldType.boolean)) ∈ WW := wwOf (tb3 (List.mem_of_getElem? (i := 206) rfl)) rfl
theorem kw_t3_207 : (Cond.methodLink RL 42 yX6_down) ∈ WW := wwOf (tb3 (List.mem_of_getElem? (i := 207) rfl)) rfl
theorem kw_t3_208 : (Cond.instanceMethod yX6_down) ∈ WW := wwOf (tb3 (List.mem_of_getElem? (i := 208) rfl)) rfl
theorem kw_t3_209 : (Cond.selects RX6 yX6_down yX6_down) ∈ WW := wwOf (tb3 (List.mem_of_getElem? (i := 209) rfl)) rfl
theorem kw_t3_210 : (Cond.code yX6_down prog_8_method_13_code 3 (Option.some Jvm.ClassFile.FieldType.boolean)) ∈ WW := wwOf (tb3 (List.mem_of_getElem? (i := 210) rfl)) rfl
theorem kw_t3_211 : (Cond.methodLink RL 55 yX6_tick) ∈ WW := wwOf (tb3 (List.mem_of_getElem? (i := 211) rfl)) rfl
theorem kw_t3_212 : (Cond.instanceMethod yX6_tick) ∈ WW := wwOf (tb3 (List.mem_of_getElem? (i := 212) rfl)) rfl
theorem kw_t3_213 : (Cond.selects RX6 yX6_tick yX6_tick) ∈ WW := wwOf (tb3 (List.mem_of_getElem? (i := 213) rfl)) rfl
theorem kw_t3_214 : (Cond.code yX6_tick prog_8_method_21_code 4 (Option.some Jvm.ClassFile.FieldType.int)) ∈ WW := wwOf (tb3 (List.mem_of_getElem? (i := 214) rfl)) rfl
theorem kw_t3_215 : (Cond.constant RX6 172 (100000 : Int32)) ∈ WW := wwOf (tb3 (List.mem_of_getElem? (i := 215) rfl)) rfl
theorem kw_t3_216 : (Cond.methodLink RX6 173 yX6_take) ∈ WW := wwOf (tb3 (List.mem_of_getElem? (i := 216) rfl)) rfl
theorem kw_t3_218 : (Cond.instanceMethod yX6_take) ∈ WW := wwOf (tb3 (List.mem_of_getElem? (i := 218) rfl)) rfl
theorem kw_t3_219 : (Cond.code yX6_take prog_8_method_17_code 4 (Option.none : Option Jvm.ClassFile.FieldType)) ∈ WW := wwOf (tb3 (List.mem_of_getElem? (i := 219) rfl)) rfl
theorem kw_t3_220 : (Cond.methodLink RX6 157 yX6_act) ∈ WW := wwOf (tb3 (List.mem_of_getElem? (i := 220) rfl)) rfl
theorem kw_t3_222 : (Cond.instanceMethod yX6_act) ∈ WW := wwOf (tb3 (List.mem_of_getElem? (i := 222) rfl)) rfl
theorem kw_t3_223 : (Cond.code yX6_act prog_8_method_16_code 4 (Option.none : Option Jvm.ClassFile.FieldType)) ∈ WW := wwOf (tb3 (List.mem_of_getElem? (i := 223) rfl)) rfl
theorem kw_t3_224 : (Cond.methodLink RX6 176 yX6_goesOn) ∈ WW := wwOf (tb3 (List.mem_of_getElem? (i := 224) rfl)) rfl
theorem kw_t3_226 : (Cond.instanceMethod yX6_goesOn) ∈ WW := wwOf (tb3 (List.mem_of_getElem? (i := 226) rfl)) rfl
theorem kw_t3_227 : (Cond.code yX6_goesOn prog_8_method_20_code 3 (Option.none : Option Jvm.ClassFile.FieldType)) ∈ WW := wwOf (tb3 (List.mem_of_getElem? (i := 227) rfl)) rfl
theorem kw_t3_228 : (Cond.methodLink RX6 161 yX6_isOver) ∈ WW := wwOf (tb3 (List.mem_of_getElem? (i := 228) rfl)) rfl
theorem kw_t3_230 : (Cond.instanceMethod yX6_isOver) ∈ WW := wwOf (tb3 (List.mem_of_getElem? (i := 230) rfl)) rfl
theorem kw_t3_231 : (Cond.code yX6_isOver prog_8_method_18_code 2 (Option.some Jvm.ClassFile.FieldType.boolean)) ∈ WW := wwOf (tb3 (List.mem_of_getElem? (i := 231) rfl)) rfl
theorem kw_t3_232 : (Cond.methodLink RX6 164 yX6_next) ∈ WW := wwOf (tb3 (List.mem_of_getElem? (i := 232) rfl)) rfl
theorem kw_t3_234 : (Cond.instanceMethod yX6_next) ∈ WW := wwOf (tb3 (List.mem_of_getElem? (i := 234) rfl)) rfl
theorem kw_t3_235 : (Cond.code yX6_next prog_8_method_19_code 2 (Option.some Jvm.ClassFile.FieldType.int)) ∈ WW := wwOf (tb3 (List.mem_of_getElem? (i := 235) rfl)) rfl
theorem kw_t3_236 : (Cond.methodLink RX6 168 yX6_begins) ∈ WW := wwOf (tb3 (List.mem_of_getElem? (i := 236) rfl)) rfl
theorem kw_t3_238 : (Cond.instanceMethod yX6_begins) ∈ WW := wwOf (tb3 (List.mem_of_getElem? (i := 238) rfl)) rfl
theorem kw_t3_239 : (Cond.code yX6_begins prog_8_method_15_code 4 (Option.none : Option Jvm.ClassFile.FieldType)) ∈ WW := wwOf (tb3 (List.mem_of_getElem? (i := 239) rfl)) rfl
theorem kw_t4_0 : (Cond.methodLink RX6 150 yX6_isOf) ∈ WW := wwOf (tb4 (List.mem_of_getElem? (i := 0) rfl)) rfl
theorem kw_t4_1 : (Cond.static yX6_isOf) ∈ WW := wwOf (tb4 (List.mem_of_getElem? (i := 1) rfl)) rfl
theorem kw_t4_2 : (Cond.code yX6_isOf prog_8_method_5_code 2 (Option.some Jvm.ClassFile.FieldType.boolean)) ∈ WW := wwOf (tb4 (List.mem_of_getElem? (i := 2) rfl)) rfl
theorem kw_t4_3 : (Cond.methodLink RX6 153 yX6_write) ∈ WW := wwOf (tb4 (List.mem_of_getElem? (i := 3) rfl)) rfl
theorem kw_t4_5 : (Cond.instanceMethod yX6_write) ∈ WW := wwOf (tb4 (List.mem_of_getElem? (i := 5) rfl)) rfl
theorem kw_t4_6 : (Cond.code yX6_write prog_8_method_14_code 4 (Option.none : Option Jvm.ClassFile.FieldType)) ∈ WW := wwOf (tb4 (List.mem_of_getElem? (i := 6) rfl)) rfl
theorem kw_t4_7 : (Cond.methodLink RX6 144 Lib.Math.max.name) ∈ WW := wwOf (tb4 (List.mem_of_getElem? (i := 7) rfl)) rfl
theorem kw_t4_8 : (Cond.methodLink RL 47 yX6_turn) ∈ WW := wwOf (tb4 (List.mem_of_getElem? (i := 8) rfl)) rfl
theorem kw_t4_9 : (Cond.instanceMethod yX6_turn) ∈ WW := wwOf (tb4 (List.mem_of_getElem? (i := 9) rfl)) rfl
theorem kw_t4_10 : (Cond.selects RX6 yX6_turn yX6_turn) ∈ WW := wwOf (tb4 (List.mem_of_getElem? (i := 10) rfl)) rfl
theorem kw_t4_11 : (Cond.code yX6_turn prog_8_method_23_code 3 (Option.some Jvm.ClassFile.FieldType.int)) ∈ WW := wwOf (tb4 (List.mem_of_getElem? (i := 11) rfl)) rfl
theorem kw_t4_12 : (Cond.methodLink RX6 182 yX6_start) ∈ WW := wwOf (tb4 (List.mem_of_getElem? (i := 12) rfl)) rfl
theorem kw_t4_14 : (Cond.instanceMethod yX6_start) ∈ WW := wwOf (tb4 (List.mem_of_getElem? (i := 14) rfl)) rfl
theorem kw_t4_15 : (Cond.code yX6_start prog_8_method_22_code 3 (Option.none : Option Jvm.ClassFile.FieldType)) ∈ WW := wwOf (tb4 (List.mem_of_getElem? (i := 15) rfl)) rfl
theorem kw_t4_16 : (Cond.methodLink RL 51 yX6_stolen) ∈ WW := wwOf (tb4 (List.mem_of_getElem? (i := 16) rfl)) rfl
theorem kw_t4_17 : (Cond.instanceMethod yX6_stolen) ∈ WW := wwOf (tb4 (List.mem_of_getElem? (i := 17) rfl)) rfl
theorem kw_t4_18 : (Cond.selects RX6 yX6_stolen yX6_stolen) ∈ WW := wwOf (tb4 (List.mem_of_getElem? (i := 18) rfl)) rfl
theorem kw_t4_19 : (Cond.code yX6_stolen prog_8_method_24_code 2 (Option.some Jvm.ClassFile.FieldType.int)) ∈ WW := wwOf (tb4 (List.mem_of_getElem? (i := 19) rfl)) rfl
theorem kw_t4_20 : (Cond.methodLink RL 60 yX6_ask) ∈ WW := wwOf (tb4 (List.mem_of_getElem? (i := 20) rfl)) rfl
theorem kw_t4_21 : (Cond.instanceMethod yX6_ask) ∈ WW := wwOf (tb4 (List.mem_of_getElem? (i := 21) rfl)) rfl
theorem kw_t4_22 : (Cond.selects RX6 yX6_ask yX6_ask) ∈ WW := wwOf (tb4 (List.mem_of_getElem? (i := 22) rfl)) rfl
theorem kw_t4_23 : (Cond.code yX6_ask prog_8_method_29_code 4 (Option.some Jvm.ClassFile.FieldType.int)) ∈ WW := wwOf (tb4 (List.mem_of_getElem? (i := 23) rfl)) rfl
theorem kw_t4_24 : (Cond.methodLink RX6 195 yX6_isHolder) ∈ WW := wwOf (tb4 (List.mem_of_getElem? (i := 24) rfl)) rfl
theorem kw_t4_26 : (Cond.instanceMethod yX6_isHolder) ∈ WW := wwOf (tb4 (List.mem_of_getElem? (i := 26) rfl)) rfl
theorem kw_t4_27 : (Cond.code yX6_isHolder prog_8_method_28_code 3 (Option.some Jvm.ClassFile.FieldType.boolean)) ∈ WW := wwOf (tb4 (List.mem_of_getElem? (i := 27) rfl)) rfl
theorem kw_t4_28 : (Cond.methodLink RX6 198 yX6_isChecker) ∈ WW := wwOf (tb4 (List.mem_of_getElem? (i := 28) rfl)) rfl
theorem kw_t4_30 : (Cond.instanceMethod yX6_isChecker) ∈ WW := wwOf (tb4 (List.mem_of_getElem? (i := 30) rfl)) rfl
theorem kw_t4_31 : (Cond.code yX6_isChecker prog_8_method_27_code 3 (Option.some Jvm.ClassFile.FieldType.boolean)) ∈ WW := wwOf (tb4 (List.mem_of_getElem? (i := 31) rfl)) rfl
theorem kw_t4_32 : (Cond.methodLink RX6 201 yX6_asks) ∈ WW := wwOf (tb4 (List.mem_of_getElem? (i := 32) rfl)) rfl
theorem kw_t4_34 : (Cond.instanceMethod yX6_asks) ∈ WW := wwOf (tb4 (List.mem_of_getElem? (i := 34) rfl)) rfl
theorem kw_t4_35 : (Cond.code yX6_asks prog_8_method_26_code 7 (Option.some Jvm.ClassFile.FieldType.int)) ∈ WW := wwOf (tb4 (List.mem_of_getElem? (i := 35) rfl)) rfl
theorem kw_t4_36 : (Cond.methodLink RX6 186 yX6_isGood) ∈ WW := wwOf (tb4 (List.mem_of_getElem? (i := 36) rfl)) rfl
theorem kw_t4_38 : (Cond.instanceMethod yX6_isGood) ∈ WW := wwOf (tb4 (List.mem_of_getElem? (i := 38) rfl)) rfl
theorem kw_t4_39 : (Cond.code yX6_isGood prog_8_method_25_code 4 (Option.some Jvm.ClassFile.FieldType.boolean)) ∈ WW := wwOf (tb4 (List.mem_of_getElem? (i := 39) rfl)) rfl
theorem kw_t4_40 : (Cond.methodLink RL 64 yX6_stranger) ∈ WW := wwOf (tb4 (List.mem_of_getElem? (i := 40) rfl)) rfl
theorem kw_t4_41 : (Cond.instanceMethod yX6_stranger) ∈ WW := wwOf (tb4 (List.mem_of_getElem? (i := 41) rfl)) rfl
theorem kw_t4_42 : (Cond.selects RX6 yX6_stranger yX6_stranger) ∈ WW := wwOf (tb4 (List.mem_of_getElem? (i := 42) rfl)) rfl
theorem kw_t4_43 : (Cond.code yX6_stranger prog_8_method_30_code 5 (Option.some Jvm.ClassFile.FieldType.int)) ∈ WW := wwOf (tb4 (List.mem_of_getElem? (i := 43) rfl)) rfl
theorem kw_t4_44 : (Cond.methodLink RL 68 yX6_told) ∈ WW := wwOf (tb4 (List.mem_of_getElem? (i := 44) rfl)) rfl
theorem kw_t4_45 : (Cond.instanceMethod yX6_told) ∈ WW := wwOf (tb4 (List.mem_of_getElem? (i := 45) rfl)) rfl
theorem kw_t4_46 : (Cond.selects RX6 yX6_told yX6_told) ∈ WW := wwOf (tb4 (List.mem_of_getElem? (i := 46) rfl)) rfl
theorem kw_t4_47 : (Cond.code yX6_told prog_8_method_33_code 3 (Option.some Jvm.ClassFile.FieldType.int)) ∈ WW := wwOf (tb4 (List.mem_of_getElem? (i := 47) rfl)) rfl
theorem kw_t4_48 : (Cond.methodLink RX6 208 yX6_age) ∈ WW := wwOf (tb4 (List.mem_of_getElem? (i := 48) rfl)) rfl
theorem kw_t4_50 : (Cond.instanceMethod yX6_age) ∈ WW := wwOf (tb4 (List.mem_of_getElem? (i := 50) rfl)) rfl
theorem kw_t4_51 : (Cond.code yX6_age prog_8_method_31_code 5 (Option.some Jvm.ClassFile.FieldType.int)) ∈ WW := wwOf (tb4 (List.mem_of_getElem? (i := 51) rfl)) rfl
theorem kw_t4_52 : (Cond.methodLink RX6 205 Lib.Math.min.name) ∈ WW := wwOf (tb4 (List.mem_of_getElem? (i := 52) rfl)) rfl
theorem kw_t4_53 : (Cond.methodLink RX6 211 yX6_lockedOut) ∈ WW := wwOf (tb4 (List.mem_of_getElem? (i := 53) rfl)) rfl
theorem kw_t4_55 : (Cond.instanceMethod yX6_lockedOut) ∈ WW := wwOf (tb4 (List.mem_of_getElem? (i := 55) rfl)) rfl
theorem kw_t4_56 : (Cond.code yX6_lockedOut prog_8_method_32_code 6 (Option.some Jvm.ClassFile.FieldType.int)) ∈ WW := wwOf (tb4 (List.mem_of_getElem? (i := 56) rfl)) rfl
theorem kw_t4_57 : (Cond.methodLink RL 72 yX6_has) ∈ WW := wwOf (tb4 (List.mem_of_getElem? (i := 57) rfl)) rfl
theorem kw_t4_58 : (Cond.instanceMethod yX6_has) ∈ WW := wwOf (tb4 (List.mem_of_getElem? (i := 58) rfl)) rfl
theorem kw_t4_59 : (Cond.selects RX6 yX6_has yX6_has) ∈ WW := wwOf (tb4 (List.mem_of_getElem? (i := 59) rfl)) rfl
theorem kw_t4_60 : (Cond.code yX6_has prog_8_method_34_code 3 (Option.some Jvm.ClassFile.FieldType.int)) ∈ WW := wwOf (tb4 (List.mem_of_getElem? (i := 60) rfl)) rfl
theorem kw_t4_61 : (Cond.methodLink RL 76 yX6_good) ∈ WW := wwOf (tb4 (List.mem_of_getElem? (i := 61) rfl)) rfl
theorem kw_t4_62 : (Cond.instanceMethod yX6_good) ∈ WW := wwOf (tb4 (List.mem_of_getElem? (i := 62) rfl)) rfl
theorem kw_t4_63 : (Cond.selects RX6 yX6_good yX6_good) ∈ WW := wwOf (tb4 (List.mem_of_getElem? (i := 63) rfl)) rfl
theorem kw_t4_64 : (Cond.code yX6_good prog_8_method_35_code 4 (Option.some Jvm.ClassFile.FieldType.int)) ∈ WW := wwOf (tb4 (List.mem_of_getElem? (i := 64) rfl)) rfl
theorem kw_t4_65 : (Cond.methodLink RL 90 yX6_turned) ∈ WW := wwOf (tb4 (List.mem_of_getElem? (i := 65) rfl)) rfl
theorem kw_t4_66 : (Cond.instanceMethod yX6_turned) ∈ WW := wwOf (tb4 (List.mem_of_getElem? (i := 66) rfl)) rfl
theorem kw_t4_67 : (Cond.selects RX6 yX6_turned yX6_turned) ∈ WW := wwOf (tb4 (List.mem_of_getElem? (i := 67) rfl)) rfl
theorem kw_t4_68 : (Cond.code yX6_turned prog_8_method_36_code 3 (Option.some Jvm.ClassFile.FieldType.int)) ∈ WW := wwOf (tb4 (List.mem_of_getElem? (i := 68) rfl)) rfl
theorem kw_t4_69 : (Cond.methodLink RL 94 yX6_count) ∈ WW := wwOf (tb4 (List.mem_of_getElem? (i := 69) rfl)) rfl
theorem kw_t4_70 : (Cond.instanceMethod yX6_count) ∈ WW := wwOf (tb4 (List.mem_of_getElem? (i := 70) rfl)) rfl
theorem kw_t4_71 : (Cond.selects RX6 yX6_count yX6_count) ∈ WW := wwOf (tb4 (List.mem_of_getElem? (i := 71) rfl)) rfl
theorem kw_t4_72 : (Cond.code yX6_count prog_8_method_37_code 4 (Option.some Jvm.ClassFile.FieldType.int)) ∈ WW := wwOf (tb4 (List.mem_of_getElem? (i := 72) rfl)) rfl
theorem kw_t4_73 : (Cond.arrayClass Jvm.ClassFile.FieldType.long) ∈ WW := wwOf (tb4 (List.mem_of_getElem? (i := 73) rfl)) rfl
theorem kw_s0_0 : (Cond.selects RX5 yX5_isSecret yX5_isSecret) ∈ WW := wwOf (tbS (List.mem_of_getElem? (i := 0) rfl)) rfl
theorem kw_s0_1 : (Cond.selects RX5 yX5_isHeldUp yX5_isHeldUp) ∈ WW := wwOf (tbS (List.mem_of_getElem? (i := 1) rfl)) rfl
theorem kw_s0_2 : (Cond.selects RX5 yX5_beginTurn yX5_beginTurn) ∈ WW := wwOf (tbS (List.mem_of_getElem? (i := 2) rfl)) rfl
theorem kw_s0_3 : (Cond.selects RX5 yX5_nextStir yX5_nextStir) ∈ WW := wwOf (tbS (List.mem_of_getElem? (i := 3) rfl)) rfl
theorem kw_s0_4 : (Cond.selects RX5 yX5_goOn yX5_goOn) ∈ WW := wwOf (tbS (List.mem_of_getElem? (i := 4) rfl)) rfl
theorem kw_s0_5 : (Cond.selects RX5 yX5_opens yX5_opens) ∈ WW := wwOf (tbS (List.mem_of_getElem? (i := 5) rfl)) rfl
theorem kw_s0_6 : (Cond.selects RX5 yX5_noteAsk yX5_noteAsk) ∈ WW := wwOf (tbS (List.mem_of_getElem? (i := 6) rfl)) rfl
theorem kw_s0_7 : (Cond.selects RX5 yX5_nextOfPlan yX5_nextOfPlan) ∈ WW := wwOf (tbS (List.mem_of_getElem? (i := 7) rfl)) rfl
theorem kw_s0_8 : (Cond.selects RX5 yX5_turnsGoingOn yX5_turnsGoingOn) ∈ WW := wwOf (tbS (List.mem_of_getElem? (i := 8) rfl)) rfl
theorem kw_s0_9 : (Cond.selects RX5 yX5_lettersUnanswered yX5_lettersUnanswered) ∈ WW := wwOf (tbS (List.mem_of_getElem? (i := 9) rfl)) rfl
theorem kw_s0_10 : (Cond.selects RX5 yX5_secretsPastLife yX5_secretsPastLife) ∈ WW := wwOf (tbS (List.mem_of_getElem? (i := 10) rfl)) rfl
theorem kw_s0_11 : (Cond.selects "java/lang/Throwable" (⟨"java/lang/Throwable", "fillInStackTrace", "(I)Ljava/lang/Throwable;"⟩ : MethodName) (⟨"java/lang/Throwable", "fillInStackTrace", "(I)Ljava/lang/Throwable;"⟩ : MethodName)) ∈ WW := wwOf (tbS (List.mem_of_getElem? (i := 11) rfl)) rfl
theorem kw_s0_12 : (Cond.selects RX6 yX6_isSecret yX6_isSecret) ∈ WW := wwOf (tbS (List.mem_of_getElem? (i := 12) rfl)) rfl
theorem kw_s0_13 : (Cond.selects RX6 yX6_hangsOn yX6_hangsOn) ∈ WW := wwOf (tbS (List.mem_of_getElem? (i := 13) rfl)) rfl
theorem kw_s0_14 : (Cond.selects RX6 yX6_take yX6_take) ∈ WW := wwOf (tbS (List.mem_of_getElem? (i := 14) rfl)) rfl
theorem kw_s0_15 : (Cond.selects RX6 yX6_act yX6_act) ∈ WW := wwOf (tbS (List.mem_of_getElem? (i := 15) rfl)) rfl
theorem kw_s0_16 : (Cond.selects RX6 yX6_goesOn yX6_goesOn) ∈ WW := wwOf (tbS (List.mem_of_getElem? (i := 16) rfl)) rfl
theorem kw_s0_17 : (Cond.selects RX6 yX6_isOver yX6_isOver) ∈ WW := wwOf (tbS (List.mem_of_getElem? (i := 17) rfl)) rfl
theorem kw_s0_18 : (Cond.selects RX6 yX6_next yX6_next) ∈ WW := wwOf (tbS (List.mem_of_getElem? (i := 18) rfl)) rfl
theorem kw_s0_19 : (Cond.selects RX6 yX6_begins yX6_begins) ∈ WW := wwOf (tbS (List.mem_of_getElem? (i := 19) rfl)) rfl
theorem kw_s0_20 : (Cond.selects RX6 yX6_write yX6_write) ∈ WW := wwOf (tbS (List.mem_of_getElem? (i := 20) rfl)) rfl
theorem kw_s0_21 : (Cond.selects RX6 yX6_start yX6_start) ∈ WW := wwOf (tbS (List.mem_of_getElem? (i := 21) rfl)) rfl
theorem kw_s0_22 : (Cond.selects RX6 yX6_isHolder yX6_isHolder) ∈ WW := wwOf (tbS (List.mem_of_getElem? (i := 22) rfl)) rfl
theorem kw_s0_23 : (Cond.selects RX6 yX6_isChecker yX6_isChecker) ∈ WW := wwOf (tbS (List.mem_of_getElem? (i := 23) rfl)) rfl
theorem kw_s0_24 : (Cond.selects RX6 yX6_asks yX6_asks) ∈ WW := wwOf (tbS (List.mem_of_getElem? (i := 24) rfl)) rfl
theorem kw_s0_25 : (Cond.selects RX6 yX6_isGood yX6_isGood) ∈ WW := wwOf (tbS (List.mem_of_getElem? (i := 25) rfl)) rfl
theorem kw_s0_26 : (Cond.selects RX6 yX6_age yX6_age) ∈ WW := wwOf (tbS (List.mem_of_getElem? (i := 26) rfl)) rfl
theorem kw_s0_27 : (Cond.selects RX6 yX6_lockedOut yX6_lockedOut) ∈ WW := wwOf (tbS (List.mem_of_getElem? (i := 27) rfl)) rfl
theorem lyX0_0 : u_lay RX0 TX0 0 ∈ WW := wwOf (tb1 (List.mem_of_getElem? (i := 138) rfl)) rfl
theorem lyX0_1 : u_lay RX0 TX0 1 ∈ WW := wwOf (tb1 (List.mem_of_getElem? (i := 140) rfl)) rfl
theorem lyX0_2 : u_lay RX0 TX0 2 ∈ WW := wwOf (tb1 (List.mem_of_getElem? (i := 142) rfl)) rfl
theorem lyX0_3 : u_lay RX0 TX0 3 ∈ WW := wwOf (tb1 (List.mem_of_getElem? (i := 144) rfl)) rfl
theorem lyX0_4 : u_lay RX0 TX0 4 ∈ WW := wwOf (tb1 (List.mem_of_getElem? (i := 146) rfl)) rfl
theorem lyX0_5 : u_lay RX0 TX0 5 ∈ WW := wwOf (tb1 (List.mem_of_getElem? (i := 148) rfl)) rfl
theorem lyX0_6 : u_lay RX0 TX0 6 ∈ WW := wwOf (tb1 (List.mem_of_getElem? (i := 150) rfl)) rfl
theorem lyX0_7 : u_lay RX0 TX0 7 ∈ WW := wwOf (tb1 (List.mem_of_getElem? (i := 152) rfl)) rfl
theorem lyX0_8 : u_lay RX0 TX0 8 ∈ WW := wwOf (tb1 (List.mem_of_getElem? (i := 154) rfl)) rfl
theorem inWX0 : ∀ w ∈ u_ws RX0 TX0 9, w ∈ WW := by
  intro w h
  obtain ⟨k, hk, rfl⟩ := List.mem_map.mp h
  have hk := List.mem_range.mp hk
  match k, hk with
  | 0, _ => exact lyX0_0
  | 1, _ => exact lyX0_1
  | 2, _ => exact lyX0_2
  | 3, _ => exact lyX0_3
  | 4, _ => exact lyX0_4
  | 5, _ => exact lyX0_5
  | 6, _ => exact lyX0_6
  | 7, _ => exact lyX0_7
  | 8, _ => exact lyX0_8
  | k + 9, h => exact absurd h (by omega)
theorem lyX1_0 : u_lay RX1 TX1 0 ∈ WW := wwOf (tb1 (List.mem_of_getElem? (i := 64) rfl)) rfl
theorem lyX1_1 : u_lay RX1 TX1 1 ∈ WW := wwOf (tb1 (List.mem_of_getElem? (i := 66) rfl)) rfl
theorem inWX1 : ∀ w ∈ u_ws RX1 TX1 2, w ∈ WW := by
  intro w h
  obtain ⟨k, hk, rfl⟩ := List.mem_map.mp h
  have hk := List.mem_range.mp hk
  match k, hk with
  | 0, _ => exact lyX1_0
  | 1, _ => exact lyX1_1
  | k + 2, h => exact absurd h (by omega)
theorem lyX2_0 : u_lay RX2 TX2 0 ∈ WW := wwOf (tb1 (List.mem_of_getElem? (i := 49) rfl)) rfl
theorem lyX2_1 : u_lay RX2 TX2 1 ∈ WW := wwOf (tb1 (List.mem_of_getElem? (i := 51) rfl)) rfl
theorem inWX2 : ∀ w ∈ u_ws RX2 TX2 2, w ∈ WW := by
  intro w h
  obtain ⟨k, hk, rfl⟩ := List.mem_map.mp h
  have hk := List.mem_range.mp hk
  match k, hk with
  | 0, _ => exact lyX2_0
  | 1, _ => exact lyX2_1
  | k + 2, h => exact absurd h (by omega)
theorem lyX3_0 : u_lay RX3 TX3 0 ∈ WW := wwOf (tb1 (List.mem_of_getElem? (i := 103) rfl)) rfl
theorem lyX3_1 : u_lay RX3 TX3 1 ∈ WW := wwOf (tb1 (List.mem_of_getElem? (i := 105) rfl)) rfl
theorem lyX3_2 : u_lay RX3 TX3 2 ∈ WW := wwOf (tb1 (List.mem_of_getElem? (i := 107) rfl)) rfl
theorem lyX3_3 : u_lay RX3 TX3 3 ∈ WW := wwOf (tb1 (List.mem_of_getElem? (i := 109) rfl)) rfl
theorem lyX3_4 : u_lay RX3 TX3 4 ∈ WW := wwOf (tb1 (List.mem_of_getElem? (i := 111) rfl)) rfl
theorem lyX3_5 : u_lay RX3 TX3 5 ∈ WW := wwOf (tb1 (List.mem_of_getElem? (i := 113) rfl)) rfl
theorem lyX3_6 : u_lay RX3 TX3 6 ∈ WW := wwOf (tb1 (List.mem_of_getElem? (i := 115) rfl)) rfl
theorem lyX3_7 : u_lay RX3 TX3 7 ∈ WW := wwOf (tb1 (List.mem_of_getElem? (i := 117) rfl)) rfl
theorem lyX3_8 : u_lay RX3 TX3 8 ∈ WW := wwOf (tb1 (List.mem_of_getElem? (i := 119) rfl)) rfl
theorem lyX3_9 : u_lay RX3 TX3 9 ∈ WW := wwOf (tb1 (List.mem_of_getElem? (i := 121) rfl)) rfl
theorem inWX3 : ∀ w ∈ u_ws RX3 TX3 10, w ∈ WW := by
  intro w h
  obtain ⟨k, hk, rfl⟩ := List.mem_map.mp h
  have hk := List.mem_range.mp hk
  match k, hk with
  | 0, _ => exact lyX3_0
  | 1, _ => exact lyX3_1
  | 2, _ => exact lyX3_2
  | 3, _ => exact lyX3_3
  | 4, _ => exact lyX3_4
  | 5, _ => exact lyX3_5
  | 6, _ => exact lyX3_6
  | 7, _ => exact lyX3_7
  | 8, _ => exact lyX3_8
  | 9, _ => exact lyX3_9
  | k + 10, h => exact absurd h (by omega)
theorem lyX4_0 : u_lay RX4 TX4 0 ∈ WW := wwOf (tb1 (List.mem_of_getElem? (i := 34) rfl)) rfl
theorem inWX4 : ∀ w ∈ u_ws RX4 TX4 1, w ∈ WW := by
  intro w h
  obtain ⟨k, hk, rfl⟩ := List.mem_map.mp h
  have hk := List.mem_range.mp hk
  match k, hk with
  | 0, _ => exact lyX4_0
  | k + 1, h => exact absurd h (by omega)
theorem lyX5_0 : u_lay RX5 TX5 0 ∈ WW := wwOf (tb1 (List.mem_of_getElem? (i := 168) rfl)) rfl
theorem lyX5_1 : u_lay RX5 TX5 1 ∈ WW := wwOf (tb1 (List.mem_of_getElem? (i := 170) rfl)) rfl
theorem lyX5_2 : u_lay RX5 TX5 2 ∈ WW := wwOf (tb1 (List.mem_of_getElem? (i := 172) rfl)) rfl
theorem lyX5_3 : u_lay RX5 TX5 3 ∈ WW := wwOf (tb1 (List.mem_of_getElem? (i := 174) rfl)) rfl
theorem lyX5_4 : u_lay RX5 TX5 4 ∈ WW := wwOf (tb1 (List.mem_of_getElem? (i := 176) rfl)) rfl
theorem lyX5_5 : u_lay RX5 TX5 5 ∈ WW := wwOf (tb1 (List.mem_of_getElem? (i := 178) rfl)) rfl
theorem lyX5_6 : u_lay RX5 TX5 6 ∈ WW := wwOf (tb1 (List.mem_of_getElem? (i := 180) rfl)) rfl
theorem lyX5_7 : u_lay RX5 TX5 7 ∈ WW := wwOf (tb1 (List.mem_of_getElem? (i := 182) rfl)) rfl
theorem lyX5_8 : u_lay RX5 TX5 8 ∈ WW := wwOf (tb1 (List.mem_of_getElem? (i := 184) rfl)) rfl
theorem lyX5_9 : u_lay RX5 TX5 9 ∈ WW := wwOf (tb1 (List.mem_of_getElem? (i := 186) rfl)) rfl
theorem lyX5_10 : u_lay RX5 TX5 10 ∈ WW := wwOf (tb1 (List.mem_of_getElem? (i := 188) rfl)) rfl
theorem inWX5 : ∀ w ∈ u_ws RX5 TX5 11, w ∈ WW := by
  intro w h
  obtain ⟨k, hk, rfl⟩ := List.mem_map.mp h
  have hk := List.mem_range.mp hk
  match k, hk with
  | 0, _ => exact lyX5_0
  | 1, _ => exact lyX5_1
  | 2, _ => exact lyX5_2
  | 3, _ => exact lyX5_3
  | 4, _ => exact lyX5_4
  | 5, _ => exact lyX5_5
  | 6, _ => exact lyX5_6
  | 7, _ => exact lyX5_7
  | 8, _ => exact lyX5_8
  | 9, _ => exact lyX5_9
  | 10, _ => exact lyX5_10
  | k + 11, h => exact absurd h (by omega)
theorem lyX6_0 : u_lay RX6 TX6 0 ∈ WW := wwOf (tb3 (List.mem_of_getElem? (i := 84) rfl)) rfl
theorem lyX6_1 : u_lay RX6 TX6 1 ∈ WW := wwOf (tb3 (List.mem_of_getElem? (i := 86) rfl)) rfl
theorem lyX6_2 : u_lay RX6 TX6 2 ∈ WW := wwOf (tb3 (List.mem_of_getElem? (i := 88) rfl)) rfl
theorem lyX6_3 : u_lay RX6 TX6 3 ∈ WW := wwOf (tb3 (List.mem_of_getElem? (i := 90) rfl)) rfl
theorem lyX6_4 : u_lay RX6 TX6 4 ∈ WW := wwOf (tb3 (List.mem_of_getElem? (i := 92) rfl)) rfl
theorem lyX6_5 : u_lay RX6 TX6 5 ∈ WW := wwOf (tb3 (List.mem_of_getElem? (i := 94) rfl)) rfl
theorem lyX6_6 : u_lay RX6 TX6 6 ∈ WW := wwOf (tb3 (List.mem_of_getElem? (i := 96) rfl)) rfl
theorem lyX6_7 : u_lay RX6 TX6 7 ∈ WW := wwOf (tb3 (List.mem_of_getElem? (i := 98) rfl)) rfl
theorem lyX6_8 : u_lay RX6 TX6 8 ∈ WW := wwOf (tb3 (List.mem_of_getElem? (i := 100) rfl)) rfl
theorem lyX6_9 : u_lay RX6 TX6 9 ∈ WW := wwOf (tb3 (List.mem_of_getElem? (i := 102) rfl)) rfl
theorem lyX6_10 : u_lay RX6 TX6 10 ∈ WW := wwOf (tb3 (List.mem_of_getElem? (i := 104) rfl)) rfl
theorem lyX6_11 : u_lay RX6 TX6 11 ∈ WW := wwOf (tb3 (List.mem_of_getElem? (i := 106) rfl)) rfl
theorem lyX6_12 : u_lay RX6 TX6 12 ∈ WW := wwOf (tb3 (List.mem_of_getElem? (i := 108) rfl)) rfl
theorem lyX6_13 : u_lay RX6 TX6 13 ∈ WW := wwOf (tb3 (List.mem_of_getElem? (i := 110) rfl)) rfl
theorem lyX6_14 : u_lay RX6 TX6 14 ∈ WW := wwOf (tb3 (List.mem_of_getElem? (i := 112) rfl)) rfl
theorem lyX6_15 : u_lay RX6 TX6 15 ∈ WW := wwOf (tb3 (List.mem_of_getElem? (i := 114) rfl)) rfl
theorem lyX6_16 : u_lay RX6 TX6 16 ∈ WW := wwOf (tb3 (List.mem_of_getElem? (i := 116) rfl)) rfl
theorem lyX6_17 : u_lay RX6 TX6 17 ∈ WW := wwOf (tb3 (List.mem_of_getElem? (i := 118) rfl)) rfl
theorem lyX6_18 : u_lay RX6 TX6 18 ∈ WW := wwOf (tb3 (List.mem_of_getElem? (i := 120) rfl)) rfl
theorem lyX6_19 : u_lay RX6 TX6 19 ∈ WW := wwOf (tb3 (List.mem_of_getElem? (i := 122) rfl)) rfl
theorem lyX6_20 : u_lay RX6 TX6 20 ∈ WW := wwOf (tb3 (List.mem_of_getElem? (i := 124) rfl)) rfl
theorem lyX6_21 : u_lay RX6 TX6 21 ∈ WW := wwOf (tb3 (List.mem_of_getElem? (i := 126) rfl)) rfl
theorem lyX6_22 : u_lay RX6 TX6 22 ∈ WW := wwOf (tb3 (List.mem_of_getElem? (i := 128) rfl)) rfl
theorem lyX6_23 : u_lay RX6 TX6 23 ∈ WW := wwOf (tb3 (List.mem_of_getElem? (i := 130) rfl)) rfl
theorem lyX6_24 : u_lay RX6 TX6 24 ∈ WW := wwOf (tb3 (List.mem_of_getElem? (i := 132) rfl)) rfl
theorem lyX6_25 : u_lay RX6 TX6 25 ∈ WW := wwOf (tb3 (List.mem_of_getElem? (i := 134) rfl)) rfl
theorem lyX6_26 : u_lay RX6 TX6 26 ∈ WW := wwOf (tb3 (List.mem_of_getElem? (i := 136) rfl)) rfl
theorem lyX6_27 : u_lay RX6 TX6 27 ∈ WW := wwOf (tb3 (List.mem_of_getElem? (i := 138) rfl)) rfl
theorem lyX6_28 : u_lay RX6 TX6 28 ∈ WW := wwOf (tb3 (List.mem_of_getElem? (i := 140) rfl)) rfl
theorem lyX6_29 : u_lay RX6 TX6 29 ∈ WW := wwOf (tb3 (List.mem_of_getElem? (i := 142) rfl)) rfl
theorem lyX6_30 : u_lay RX6 TX6 30 ∈ WW := wwOf (tb3 (List.mem_of_getElem? (i := 144) rfl)) rfl
theorem lyX6_31 : u_lay RX6 TX6 31 ∈ WW := wwOf (tb3 (List.mem_of_getElem? (i := 146) rfl)) rfl
theorem lyX6_32 : u_lay RX6 TX6 32 ∈ WW := wwOf (tb3 (List.mem_of_getElem? (i := 148) rfl)) rfl
theorem lyX6_33 : u_lay RX6 TX6 33 ∈ WW := wwOf (tb3 (List.mem_of_getElem? (i := 150) rfl)) rfl
theorem lyX6_34 : u_lay RX6 TX6 34 ∈ WW := wwOf (tb3 (List.mem_of_getElem? (i := 152) rfl)) rfl
theorem lyX6_35 : u_lay RX6 TX6 35 ∈ WW := wwOf (tb3 (List.mem_of_getElem? (i := 154) rfl)) rfl
theorem lyX6_36 : u_lay RX6 TX6 36 ∈ WW := wwOf (tb3 (List.mem_of_getElem? (i := 156) rfl)) rfl
theorem lyX6_37 : u_lay RX6 TX6 37 ∈ WW := wwOf (tb3 (List.mem_of_getElem? (i := 158) rfl)) rfl
theorem lyX6_38 : u_lay RX6 TX6 38 ∈ WW := wwOf (tb3 (List.mem_of_getElem? (i := 160) rfl)) rfl
theorem lyX6_39 : u_lay RX6 TX6 39 ∈ WW := wwOf (tb3 (List.mem_of_getElem? (i := 162) rfl)) rfl
theorem lyX6_40 : u_lay RX6 TX6 40 ∈ WW := wwOf (tb3 (List.mem_of_getElem? (i := 164) rfl)) rfl
theorem lyX6_41 : u_lay RX6 TX6 41 ∈ WW := wwOf (tb3 (List.mem_of_getElem? (i := 166) rfl)) rfl
theorem lyX6_42 : u_lay RX6 TX6 42 ∈ WW := wwOf (tb3 (List.mem_of_getElem? (i := 168) rfl)) rfl
theorem inWX6 : ∀ w ∈ u_ws RX6 TX6 43, w ∈ WW := by
  intro w h
  obtain ⟨k, hk, rfl⟩ := List.mem_map.mp h
  have hk := List.mem_range.mp hk
  match k, hk with
  | 0, _ => exact lyX6_0
  | 1, _ => exact lyX6_1
  | 2, _ => exact lyX6_2
  | 3, _ => exact lyX6_3
  | 4, _ => exact lyX6_4
  | 5, _ => exact lyX6_5
  | 6, _ => exact lyX6_6
  | 7, _ => exact lyX6_7
  | 8, _ => exact lyX6_8
  | 9, _ => exact lyX6_9
  | 10, _ => exact lyX6_10
  | 11, _ => exact lyX6_11
  | 12, _ => exact lyX6_12
  | 13, _ => exact lyX6_13
  | 14, _ => exact lyX6_14
  | 15, _ => exact lyX6_15
  | 16, _ => exact lyX6_16
  | 17, _ => exact lyX6_17
  | 18, _ => exact lyX6_18
  | 19, _ => exact lyX6_19
  | 20, _ => exact lyX6_20
  | 21, _ => exact lyX6_21
  | 22, _ => exact lyX6_22
  | 23, _ => exact lyX6_23
  | 24, _ => exact lyX6_24
  | 25, _ => exact lyX6_25
  | 26, _ => exact lyX6_26
  | 27, _ => exact lyX6_27
  | 28, _ => exact lyX6_28
  | 29, _ => exact lyX6_29
  | 30, _ => exact lyX6_30
  | 31, _ => exact lyX6_31
  | 32, _ => exact lyX6_32
  | 33, _ => exact lyX6_33
  | 34, _ => exact lyX6_34
  | 35, _ => exact lyX6_35
  | 36, _ => exact lyX6_36
  | 37, _ => exact lyX6_37
  | 38, _ => exact lyX6_38
  | 39, _ => exact lyX6_39
  | 40, _ => exact lyX6_40
  | 41, _ => exact lyX6_41
  | 42, _ => exact lyX6_42
  | k + 43, h => exact absurd h (by omega)
end
section
theorem L0 : (0 : Int32).toInt = 0 := rfl
theorem L1 : (1 : Int32).toInt = 1 := rfl
theorem L5 : (5 : Int32).toInt = 5 := rfl
theorem L10 : (10 : Int32).toInt = 10 := rfl
theorem L12 : (12 : Int32).toInt = 12 := rfl
theorem L15 : (15 : Int32).toInt = 15 := rfl
theorem L16 : (16 : Int32).toInt = 16 := rfl
theorem L20 : (20 : Int32).toInt = 20 := rfl
theorem L63 : (63 : Int32).toInt = 63 := rfl
theorem L1000 : (1000 : Int32).toInt = 1000 := rfl
theorem L1023 : (1023 : Int32).toInt = 1023 := rfl
theorem L2000 : (2000 : Int32).toInt = 2000 := rfl
theorem L10000 : (10000 : Int32).toInt = 10000 := rfl
theorem L100000 : (100000 : Int32).toInt = 100000 := rfl
theorem Lm1 : (-1 : Int32).toInt = -1 := rfl
theorem kt_shr0 (x : Int32) : (0 : Int32) >>> (x &&& 31) = 0 := by
  apply Int32.toBitVec_inj.mp
  simp
theorem kt_P0 {D : va_G} {cl : List vw_C} {H : Heap} : va_P D cl [] H := fun k q h => by simp at h
theorem kt_D0 {A : Nat → Prop} : va_D A [] := ⟨fun i j p q h => by simp at h, fun k q h => by simp at h⟩
/-- two classes of arrays of ints (or booleans) are one -/
theorem kt_cA {D : va_G} {cl : List vw_C} {tys : List (ClassId × FieldType)} {s : State} (hK : va_K D cl tys s) {i j : Nat} {a b : ClassId} {ty : FieldType} (hi : tys[i]? = some (a, ty)) (hj : tys[j]? = some (b, ty)) (ht : ty = .int ∨ ty = .boolean := by first | exact Or.inl rfl | exact Or.inr rfl) : a = b := by
  have h1 := (hK.2 i _ hi).2
  have h2 := (hK.2 j _ hj).2
  rcases ht with rfl | rfl
  · exact Option.some.inj ((show s.vm.findClass _ = some a from h1).symm.trans h2)
  · exact Option.some.inj ((show s.vm.findClass _ = some a from h1).symm.trans h2)
theorem kt_cQ {D : va_G} {cl : List vw_C} {tys : List (ClassId × FieldType)} {s : State} (hK : va_K D cl tys s) {i j : Nat} {a b : ClassId} {C : String} (hi : tys[i]? = some (a, .object C)) (hj : tys[j]? = some (b, .object C)) : a = b := by
  obtain ⟨k1, c1, -, -, -, h1⟩ := (hK.2 i _ hi).2
  obtain ⟨k2, c2, -, -, -, h2⟩ := (hK.2 j _ hj).2
  exact Option.some.inj (h1.symm.trans h2)
theorem gI {big : List Cond} {c1 : Cond} (hb : ∀ w ∈ WW, w ∈ big) (h : c1 ∈ WW) : GoodIn big (c1 :: WW) := fun w hw => by
  rcases List.mem_cons.mp hw with rfl | hw
  · exact ⟨hb _ h, good_of_word (ww_good _ h)⟩
  · exact ⟨hb _ hw, good_of_word (ww_good _ hw)⟩
theorem gV {big : List Cond} {own C : String} {idx : Nat} {y : MethodName} {c1 : Cond} (hb : ∀ w ∈ WW, w ∈ big) (h1 : Cond.methodLink own idx y ∈ WW) (h2 : Cond.instanceMethod y ∈ WW) (h3 : Cond.selects C y y ∈ WW) (h4 : Cond.initialized C ∈ WW) (h : c1 ∈ WW) : GoodIn big (wsV own idx C y (c1 :: WW)) := fun w hw => by
  rcases List.mem_append.mp hw with hw | hw
  · have hm : w ∈ WW := by
      simp only [List.mem_cons, List.not_mem_nil, or_false] at hw
      rcases hw with rfl | rfl | rfl | rfl <;> assumption
    exact ⟨hb _ hm, good_of_word (ww_good _ hm)⟩
  · exact gI hb h w hw
theorem gS {big : List Cond} {own : String} {idx : Nat} {y : MethodName} {c1 : Cond} (hb : ∀ w ∈ WW, w ∈ big) (h1 : Cond.methodLink own idx y ∈ WW) (h2 : Cond.static y ∈ WW) (h4 : Cond.initialized y.cls ∈ WW) (h : c1 ∈ WW) : GoodIn big (va_wsS own idx y (c1 :: WW)) := fun w hw => by
  rcases List.mem_append.mp hw with hw | hw
  · have hm : w ∈ WW := by
      simp only [List.mem_cons, List.not_mem_nil, or_false] at hw
      rcases hw with rfl | rfl | rfl <;> assumption
    exact ⟨hb _ hm, good_of_word (ww_good _ hm)⟩
  · exact gI hb h w hw
def sp_secret (p0 p1 p2 p3 : Int32) : Int32 := if p0 < 0 ∨ 1 < p0 ∨ p1 < 0 ∨ 1023 < p1 ∨ p2 < 1 ∨ 63 < p2 ∨ p3 < 1 ∨ 10000 < p3 then -1 else 0
def sp_quiet (p0 p1 : Int32) : Int32 := if p0 < 0 ∨ 1000 < p0 ∨ p1 < 0 ∨ 10000 < p1 then 0 else 1
def sp_delay (p0 p1 : Int32) : Int32 := if p0 < 0 ∨ 15 < p0 ∨ p1 < 0 ∨ 20 < p1 then 0 else 1
def sp_down (p0 p1 : Int32) : Int32 := if p0 < 0 ∨ 16 < p0 ∨ p1 = 0 then 0 else 1
def sp_tick (p0 : Int32) : Int32 := if p0 < 0 ∨ 2000 < p0 then -1 else p0
def sp_count (p0 : Int32) : Int32 := if p0 < 0 ∨ 7 < p0 then -1 else 0
theorem kt_sw8 (x : Int32) : x = 0 ∨ x = 1 ∨ x = 2 ∨ x = 3 ∨ x = 4 ∨ x = 5 ∨ x = 6 ∨ x = 7 ∨ (x.toInt < 0 ∨ 7 < x.toInt) := by
  simp only [← Int32.toInt_inj, L0, L1, L5, show (2 : Int32).toInt = 2 from rfl, show (3 : Int32).toInt = 3 from rfl, show (4 : Int32).toInt = 4 from rfl, show (6 : Int32).toInt = 6 from rfl, show (7 : Int32).toInt = 7 from rfl]
  omega
theorem L7 : (7 : Int32).toInt = 7 := rfl
theorem kt_id {P : Prop} (h : P) {Q : Prop} (_ : Q) : P := h
theorem kt_nlt {x : Int32} (h : ¬ 2000 < x) : x ≤ 2000 := by
  simp only [Int32.lt_iff_toInt_lt, Int32.le_iff_toInt_le] at h ⊢
  omega
theorem kt_absQ {p : Program} {l : Launch} {e : Env} {R : Room} {s : State} {m : MethodId} {args : Array Value} {below : List Frame} {meth : Method} {c : Code} {H : Heap} {locs : List Loc} {cells slots : Nat} {g : JFrame} {Q : State → Prop} (h : ∀ Q1 : State → Prop, Q1 = Q → W p l e R s m args below meth c H locs cells slots Q1 g) : W p l e R s m args below meth c H locs cells slots Q g := h Q rfl
theorem kt_arr {s : State} {args : Array Value} {ty : FieldType} (hno : ∀ C, ty ≠ .object C) (h : (Cond.arrayClass ty).before args s = true) : ∃ cA, ArrOfT s cA ty ∧ va_RA s cA ty := by
  obtain ⟨c, k, comp, h1, h2, h3⟩ := Cond.arrayClass_spec h
  refine ⟨c, fun n z => ⟨fun k h => (by cases h), k, h2, comp, h3⟩, ?_⟩
  cases ty <;> first | exact h1 | exact absurd rfl (hno _)
theorem kt_arrq {s : State} {args : Array Value} {C : String} (h : (Cond.arrayOver (.object C)).before args s = true) : ∃ cA, ArrOfT s cA (.object C) ∧ va_RA s cA (.object C) := by
  obtain ⟨comp, c, k, h1, h2, h3, h4, h5⟩ := Cond.arrayOver_spec h
  exact ⟨c, fun n z => ⟨fun k h => (by cases h), k, h3, comp, h4⟩, k, comp, h3, h4, h1, h5⟩
theorem kt_row {x t y : Int32} (h0 : ¬ x < 0) (h1 : x < 500) (k : Nat) (hk : k < 5) (ht : t = x * 5) (hy : y = t + nI k) : vp_in y 2500 := by
  obtain ⟨j, hj, rfl⟩ : ∃ j : Nat, j < 500 ∧ x = nI j := by
    obtain ⟨j, hj, e⟩ := nI_of h0
    refine ⟨j, ?_, e⟩
    rw [e] at h1
    exact (nI_ltI hj (by decide)).mp (show nI j < nI 500 from h1)
  have e5 : nI j * 5 = nI (j * 5) := pk_mul j 5
  rw [hy, ht, e5, nI_add]
  exact vp_in_nI (by omega) (by decide)
theorem kt_lt {k M : Int32} {i N : Nat} (hM : M = nI N) (hN : N < 2 ^ 31) (ek : k = nI i) (hi : i ≤ N) (c : ¬ M ≤ k) : i < N := by
  rcases Nat.lt_or_ge i N with z | z
  · exact z
  · exact absurd (by rw [hM, ek]; exact nI_le z (by omega)) c
theorem kt_inl {k M : Int32} {i N : Nat} (hM : M = nI N) (hN : N < 2 ^ 31) (ek : k = nI i) (hi : i ≤ N) (c : ¬ M ≤ k) : vp_in k N := by
  rw [ek]
  exact vp_in_nI (kt_lt hM hN ek hi c) hN
theorem kt_sw15 (x : Int32) : x = 1 ∨ x = 2 ∨ x = 3 ∨ x = 4 ∨ x = 5 ∨ (x.toInt < 1 ∨ 5 < x.toInt) := by
  simp only [← Int32.toInt_inj, L1, L5, show (2 : Int32).toInt = 2 from rfl, show (3 : Int32).toInt = 3 from rfl, show (4 : Int32).toInt = 4 from rfl]
  omega
theorem L500 : (500 : Int32).toInt = 500 := rfl
theorem kt_dvX0 : ∀ j, j < 9 → defaultValue (tyX0 j) = vp_V [.null, .null, .int 0, .int 0, .int 0, .int 0, .int 0, .int 0, .int 0] j := by
  intro j hj
  match j, hj with
  | 0, _ => rfl
  | 1, _ => rfl
  | 2, _ => rfl
  | 3, _ => rfl
  | 4, _ => rfl
  | 5, _ => rfl
  | 6, _ => rfl
  | 7, _ => rfl
  | 8, _ => rfl
  | j + 9, h => exact absurd h (by omega)
theorem kt_dvX1 : ∀ j, j < 2 → defaultValue (tyX1 j) = vp_V [.null, .int 0] j := by
  intro j hj
  match j, hj with
  | 0, _ => rfl
  | 1, _ => rfl
  | j + 2, h => exact absurd h (by omega)
theorem kt_dvX2 : ∀ j, j < 2 → defaultValue (tyX2 j) = vp_V [.null, .int 0] j := by
  intro j hj
  match j, hj with
  | 0, _ => rfl
  | 1, _ => rfl
  | j + 2, h => exact absurd h (by omega)
theorem kt_dvX3 : ∀ j, j < 10 → defaultValue (tyX3 j) = vp_V [.int 0, .int 0, .int 0, .int 0, .int 0, .int 0, .int 0, .int 0, .int 0, .int 0] j := by
  intro j hj
  match j, hj with
  | 0, _ => rfl
  | 1, _ => rfl
  | 2, _ => rfl
  | 3, _ => rfl
  | 4, _ => rfl
  | 5, _ => rfl
  | 6, _ => rfl
  | 7, _ => rfl
  | 8, _ => rfl
  | 9, _ => rfl
  | j + 10, h => exact absurd h (by omega)
theorem kt_dvX4 : ∀ j, j < 1 → defaultValue (tyX4 j) = vp_V [.null] j := by
  intro j hj
  match j, hj with
  | 0, _ => rfl
  | j + 1, h => exact absurd h (by omega)
theorem kt_dvX5 : ∀ j, j < 11 → defaultValue (tyX5 j) = vp_V [.null, .null, .null, .null, .null, .int 0, .int 0, .int 0, .int 0, .int 0, .int 0] j := by
  intro j hj
  match j, hj with
  | 0, _ => rfl
  | 1, _ => rfl
  | 2, _ => rfl
  | 3, _ => rfl
  | 4, _ => rfl
  | 5, _ => rfl
  | 6, _ => rfl
  | 7, _ => rfl
  | 8, _ => rfl
  | 9, _ => rfl
  | 10, _ => rfl
  | j + 11, h => exact absurd h (by omega)
theorem kt_dvX6 : ∀ j, j < 43 → defaultValue (tyX6 j) = vp_V [.int 0, .int 0, .int 0, .int 0, .int 0, .int 0, .int 0, .int 0, .int 0, .null, .null, .null, .null, .null, .null, .null, .null, .null, .null, .null, .null, .null, .null, .null, .null, .null, .null, .null, .null, .null, .null, .null, .null, .null, .null, .null, .null, .null, .null, .null, .null, .null, .null] j := by
  intro j hj
  match j, hj with
  | 0, _ => rfl
  | 1, _ => rfl
  | 2, _ => rfl
  | 3, _ => rfl
  | 4, _ => rfl
  | 5, _ => rfl
  | 6, _ => rfl
  | 7, _ => rfl
  | 8, _ => rfl
  | 9, _ => rfl
  | 10, _ => rfl
  | 11, _ => rfl
  | 12, _ => rfl
  | 13, _ => rfl
  | 14, _ => rfl
  | 15, _ => rfl
  | 16, _ => rfl
  | 17, _ => rfl
  | 18, _ => rfl
  | 19, _ => rfl
  | 20, _ => rfl
  | 21, _ => rfl
  | 22, _ => rfl
  | 23, _ => rfl
  | 24, _ => rfl
  | 25, _ => rfl
  | 26, _ => rfl
  | 27, _ => rfl
  | 28, _ => rfl
  | 29, _ => rfl
  | 30, _ => rfl
  | 31, _ => rfl
  | 32, _ => rfl
  | 33, _ => rfl
  | 34, _ => rfl
  | 35, _ => rfl
  | 36, _ => rfl
  | 37, _ => rfl
  | 38, _ => rfl
  | 39, _ => rfl
  | 40, _ => rfl
  | 41, _ => rfl
  | 42, _ => rfl
  | j + 43, h => exact absurd h (by omega)
end
section
def gP (cI : ClassId) (a : Nat → Nat) (i j : Nat) (x : Nat → Int32) : va_E := match j with
  | 0 => .inr (0, [.ref (a (10 + 3 * i)), .ref (a (11 + 3 * i)), .int (x 2), .int (x 3), .int (x 4), .int (x 5), .int (x 6), .int (x 7), .int (x 8)])
  | 1 => .inr (3, [.int (x 0), .int (x 1), .int (x 2), .int (x 3), .int (x 4), .int (x 5), .int (x 6), .int (x 7), .int (x 8), .int (x 9)])
  | _ => .inl (cI, 16, .inl x)
def gR (cI cZ cJ : ClassId) (a : Nat → Nat) (j : Nat) (x : Nat → Int32) : va_E := match j with
  | 0 => .inr (6, [.int (x 0), .int (x 1), .int (x 2), .int (x 3), .int (x 4), .int (x 5), .int (x 6), .int (x 7), .int (x 8), .ref (a 46), .ref (a 47), .ref (a 48), .ref (a 49), .ref (a 50), .ref (a 51), .ref (a 52), .ref (a 53), .ref (a 54), .ref (a 55), .ref (a 56), .ref (a 57), .ref (a 58), .ref (a 59), .ref (a 60), .ref (a 61), .ref (a 62), .ref (a 63), .ref (a 64), .ref (a 65), .ref (a 66), .ref (a 67), .ref (a 68), .ref (a 69), .ref (a 70), .ref (a 71), .ref (a 72), .ref (a 73), .ref (a 74), .ref (a 75), .ref (a 76), .ref (a 77), .ref (a 78), .ref (a 79)])
  | 1 => .inl (cI, 12, .inl x)
  | 2 => .inl (cI, 12, .inl x)
  | 3 => .inl (cI, 12, .inl x)
  | 4 => .inl (cI, 12, .inl x)
  | 5 => .inl (cI, 12, .inl x)
  | 6 => .inl (cI, 12, .inl x)
  | 7 => .inl (cI, 12, .inl x)
  | 8 => .inl (cI, 12, .inl x)
  | 9 => .inl (cI, 12, .inl x)
  | 10 => .inl (cI, 12, .inl x)
  | 11 => .inl (cI, 12, .inl x)
  | 12 => .inl (cI, 12, .inl x)
  | 13 => .inl (cZ, 12, .inl x)
  | 14 => .inl (cZ, 144, .inl x)
  | 15 => .inl (cZ, 17, .inl x)
  | 16 => .inl (cI, 120, .inl x)
  | 17 => .inl (cI, 72, .inl x)
  | 18 => .inl (cI, 72, .inl x)
  | 19 => .inl (cI, 16, .inl x)
  | 20 => .inl (cI, 72, .inl x)
  | 21 => .inl (cI, 72, .inl x)
  | 22 => .inl (cI, 600, .inl x)
  | 23 => .inl (cI, 600, .inl x)
  | 24 => .inl (cI, 600, .inl x)
  | 25 => .inl (cI, 600, .inl x)
  | 26 => .inl (cI, 600, .inl x)
  | 27 => .inl (cZ, 600, .inl x)
  | 28 => .inl (cI, 500, .inl x)
  | 29 => .inl (cI, 500, .inl x)
  | 30 => .inl (cI, 500, .inl x)
  | 31 => .inl (cI, 500, .inl x)
  | 32 => .inl (cZ, 500, .inl x)
  | 33 => .inl (cZ, 12, .inl x)
  | 34 => .inl (cZ, 12, .inl x)
  | _ => .inl (cJ, 1, .inr (.inl (fun j => (x j).toInt64)))

def gE (cI cZ cS cC cJ : ClassId) (a : Nat → Nat) (c : Nat) (x : Nat → Int32) : va_E := match c with
  | 0 => .inr (5, [.ref (a 1), .ref (a 2), .ref (a 3), .ref (a 5), .ref (a 7), .int (x 5), .int (x 6), .int (x 7), .int (x 8), .int (x 9), .int (x 10)])
  | 1 => .inl (cS, 12, .inr (.inr (.inr (.inr (fun j => some (a (10 + 3 * j)))))))
  | 2 => .inl (cC, 12, .inr (.inr (.inr (.inr (fun j => some (a (9 + 3 * j)))))))
  | 3 => .inr (4, [.ref (a 4)])
  | 4 => .inl (cI, 12, .inl x)
  | 5 => .inr (2, [.ref (a 6), .int (x 1)])
  | 6 => .inl (cI, 16, .inl x)
  | 7 => .inr (1, [.ref (a 8), .int (x 1)])
  | 8 => .inl (cI, 2500, .inl x)
  | c + 9 => if c < 36 then gP cI a (c / 3) (c % 3) x else gR cI cZ cJ a (c - 36) x
def mW (cI cZ cS cC cJ : ClassId) (a : Nat → Nat) (v : Nat → Nat → Int32) : va_W := (List.range 81).map (fun c => (a c, gE cI cZ cS cC cJ a c (v c)))
def mU (v : Nat → Nat → Int32) (c : Nat) (x : Nat → Int32) : Nat → Nat → Int32 := fun d => if d = c then x else v d
theorem mU_self (v : Nat → Nat → Int32) (c : Nat) (x : Nat → Int32) : mU v c x c = x := by simp [mU]
theorem mU_ne (v : Nat → Nat → Int32) {c d : Nat} (x : Nat → Int32) (h : d ≠ c) : mU v c x d = v d := by simp [mU, h]
theorem mW_at {cI cZ cS cC cJ : ClassId} {a : Nat → Nat} {v : Nat → Nat → Int32} {c : Nat} (h : c < 81) : (mW cI cZ cS cC cJ a v)[c]? = some (a c, gE cI cZ cS cC cJ a c (v c)) := by
  simp [mW, h]
theorem mW_put {D : va_G} {cl : List vw_C} {H : Heap} {cI cZ cS cC cJ : ClassId} {a : Nat → Nat} {v : Nat → Nat → Int32} {c : Nat} {en : va_E} {x : Nat → Int32} (hP : va_P D cl ((mW cI cZ cS cC cJ a v).set c (a c, en)) H) (hc : c < 81) (he : en = gE cI cZ cS cC cJ a c x) : va_P D cl (mW cI cZ cS cC cJ a (mU v c x)) H := by
  subst he
  have hl : c < (mW cI cZ cS cC cJ a v).length := by simp [mW, hc]
  have h : (mW cI cZ cS cC cJ a v).set c (a c, gE cI cZ cS cC cJ a c x) = mW cI cZ cS cC cJ a (mU v c x) := by
    apply List.ext_getElem?
    intro d
    by_cases hd : d = c
    · subst hd
      rw [List.getElem?_set_self hl, mW_at hc, mU_self]
    · rw [List.getElem?_set_ne (Ne.symm hd)]
      by_cases h8 : d < 81
      · rw [mW_at h8, mW_at h8, mU_ne _ _ hd]
      · simp [mW, h8]
  rw [← h]
  exact hP
def mDD (a : Nat → Nat) : Prop := ∀ i j, i < 81 → j < 81 → a i = a j → i = j
def mA (a : Nat → Nat) (sz : Nat) : Nat → Prop := fun q => (∃ c, c < 81 ∧ q = a c) ∨ sz ≤ q
theorem mW_of {cI cZ cS cC cJ : ClassId} {a : Nat → Nat} {v : Nat → Nat → Int32} {c : Nat} {q : Nat × va_E} (h : (mW cI cZ cS cC cJ a v)[c]? = some q) : c < 81 ∧ q = (a c, gE cI cZ cS cC cJ a c (v c)) := by
  by_cases h8 : c < 81
  · rw [mW_at h8] at h
    exact ⟨h8, (Option.some.inj h).symm⟩
  · simp [mW, h8] at h
theorem mD_of {cI cZ cS cC cJ : ClassId} {a : Nat → Nat} {v : Nat → Nat → Int32} {A : Nat → Prop} (h : mDD a) (hA : ∀ c, c < 81 → A (a c)) : va_D A (mW cI cZ cS cC cJ a v) := by
  refine ⟨fun i j p q hi hj hpq => ?_, fun k q hk => ?_⟩
  · obtain ⟨h1, e1⟩ := mW_of hi
    obtain ⟨h2, e2⟩ := mW_of hj
    rw [e1, e2] at hpq
    exact h i j h1 h2 hpq
  · obtain ⟨h1, e1⟩ := mW_of hk
    rw [e1]
    exact hA k h1
theorem mA_free {a : Nat → Nat} {H0 H : Heap} {A : Nat → Prop} {locs : List Loc} (hS : va_S A H0 H locs) (hA : ∀ q, H0.size ≤ q → A q) (hAc : ∀ c, c < 81 → A (a c)) : ∀ q, mA a H.size q → A q := by
  rintro q (⟨c, hc, rfl⟩ | h)
  · exact hAc c hc
  · exact hA q (Nat.le_trans hS.1 h)
theorem gE_C {cI cZ cS cC cJ : ClassId} {a : Nat → Nat} {i : Nat} (hi : i < 12) (x : Nat → Int32) : gE cI cZ cS cC cJ a (9 + 3 * i) x = .inr (0, [.ref (a (10 + 3 * i)), .ref (a (11 + 3 * i)), .int (x 2), .int (x 3), .int (x 4), .int (x 5), .int (x 6), .int (x 7), .int (x 8)]) := by
  show gE cI cZ cS cC cJ a (9 + 3 * i) x = gP cI a i 0 x
  rw [show 9 + 3 * i = (0 + 3 * i) + 9 by omega]
  show (if 0 + 3 * i < 36 then gP cI a ((0 + 3 * i) / 3) ((0 + 3 * i) % 3) x else _) = _
  rw [if_pos (by omega), show (0 + 3 * i) / 3 = i by omega, show (0 + 3 * i) % 3 = 0 by omega]
theorem at_C {cI cZ cS cC cJ : ClassId} {a : Nat → Nat} {v : Nat → Nat → Int32} {i : Nat} (hi : i < 12) : (mW cI cZ cS cC cJ a v)[9 + 3 * i]? = some (a (9 + 3 * i), .inr (0, [.ref (a (10 + 3 * i)), .ref (a (11 + 3 * i)), .int (v (9 + 3 * i) 2), .int (v (9 + 3 * i) 3), .int (v (9 + 3 * i) 4), .int (v (9 + 3 * i) 5), .int (v (9 + 3 * i) 6), .int (v (9 + 3 * i) 7), .int (v (9 + 3 * i) 8)])) := by
  rw [mW_at (by omega), gE_C hi]
theorem gE_S {cI cZ cS cC cJ : ClassId} {a : Nat → Nat} {i : Nat} (hi : i < 12) (x : Nat → Int32) : gE cI cZ cS cC cJ a (10 + 3 * i) x = .inr (3, [.int (x 0), .int (x 1), .int (x 2), .int (x 3), .int (x 4), .int (x 5), .int (x 6), .int (x 7), .int (x 8), .int (x 9)]) := by
  show gE cI cZ cS cC cJ a (10 + 3 * i) x = gP cI a i 1 x
  rw [show 10 + 3 * i = (1 + 3 * i) + 9 by omega]
  show (if 1 + 3 * i < 36 then gP cI a ((1 + 3 * i) / 3) ((1 + 3 * i) % 3) x else _) = _
  rw [if_pos (by omega), show (1 + 3 * i) / 3 = i by omega, show (1 + 3 * i) % 3 = 1 by omega]
theorem at_S {cI cZ cS cC cJ : ClassId} {a : Nat → Nat} {v : Nat → Nat → Int32} {i : Nat} (hi : i < 12) : (mW cI cZ cS cC cJ a v)[10 + 3 * i]? = some (a (10 + 3 * i), .inr (3, [.int (v (10 + 3 * i) 0), .int (v (10 + 3 * i) 1), .int (v (10 + 3 * i) 2), .int (v (10 + 3 * i) 3), .int (v (10 + 3 * i) 4), .int (v (10 + 3 * i) 5), .int (v (10 + 3 * i) 6), .int (v (10 + 3 * i) 7), .int (v (10 + 3 * i) 8), .int (v (10 + 3 * i) 9)])) := by
  rw [mW_at (by omega), gE_S hi]
theorem gE_R {cI cZ cS cC cJ : ClassId} {a : Nat → Nat} {i : Nat} (hi : i < 12) (x : Nat → Int32) : gE cI cZ cS cC cJ a (11 + 3 * i) x = .inl (cI, 16, .inl x) := by
  show gE cI cZ cS cC cJ a (11 + 3 * i) x = gP cI a i 2 x
  rw [show 11 + 3 * i = (2 + 3 * i) + 9 by omega]
  show (if 2 + 3 * i < 36 then gP cI a ((2 + 3 * i) / 3) ((2 + 3 * i) % 3) x else _) = _
  rw [if_pos (by omega), show (2 + 3 * i) / 3 = i by omega, show (2 + 3 * i) % 3 = 2 by omega]
theorem at_R {cI cZ cS cC cJ : ClassId} {a : Nat → Nat} {v : Nat → Nat → Int32} {i : Nat} (hi : i < 12) : (mW cI cZ cS cC cJ a v)[11 + 3 * i]? = some (a (11 + 3 * i), .inl (cI, 16, .inl (v (11 + 3 * i)))) := by
  rw [mW_at (by omega), gE_R hi]
theorem at_0 {cI cZ cS cC cJ : ClassId} {a : Nat → Nat} {v : Nat → Nat → Int32} : (mW cI cZ cS cC cJ a v)[0]? = some (a 0, .inr (5, [.ref (a 1), .ref (a 2), .ref (a 3), .ref (a 5), .ref (a 7), .int (v 0 5), .int (v 0 6), .int (v 0 7), .int (v 0 8), .int (v 0 9), .int (v 0 10)])) := mW_at (by decide)
theorem at_1 {cI cZ cS cC cJ : ClassId} {a : Nat → Nat} {v : Nat → Nat → Int32} : (mW cI cZ cS cC cJ a v)[1]? = some (a 1, .inl (cS, 12, .inr (.inr (.inr (.inr (fun j => some (a (10 + 3 * j)))))))) := mW_at (by decide)
theorem at_2 {cI cZ cS cC cJ : ClassId} {a : Nat → Nat} {v : Nat → Nat → Int32} : (mW cI cZ cS cC cJ a v)[2]? = some (a 2, .inl (cC, 12, .inr (.inr (.inr (.inr (fun j => some (a (9 + 3 * j)))))))) := mW_at (by decide)
theorem at_3 {cI cZ cS cC cJ : ClassId} {a : Nat → Nat} {v : Nat → Nat → Int32} : (mW cI cZ cS cC cJ a v)[3]? = some (a 3, .inr (4, [.ref (a 4)])) := mW_at (by decide)
theorem at_4 {cI cZ cS cC cJ : ClassId} {a : Nat → Nat} {v : Nat → Nat → Int32} : (mW cI cZ cS cC cJ a v)[4]? = some (a 4, .inl (cI, 12, .inl (v 4))) := mW_at (by decide)
theorem at_5 {cI cZ cS cC cJ : ClassId} {a : Nat → Nat} {v : Nat → Nat → Int32} : (mW cI cZ cS cC cJ a v)[5]? = some (a 5, .inr (2, [.ref (a 6), .int (v 5 1)])) := mW_at (by decide)
theorem at_6 {cI cZ cS cC cJ : ClassId} {a : Nat → Nat} {v : Nat → Nat → Int32} : (mW cI cZ cS cC cJ a v)[6]? = some (a 6, .inl (cI, 16, .inl (v 6))) := mW_at (by decide)
theorem at_7 {cI cZ cS cC cJ : ClassId} {a : Nat → Nat} {v : Nat → Nat → Int32} : (mW cI cZ cS cC cJ a v)[7]? = some (a 7, .inr (1, [.ref (a 8), .int (v 7 1)])) := mW_at (by decide)
theorem at_8 {cI cZ cS cC cJ : ClassId} {a : Nat → Nat} {v : Nat → Nat → Int32} : (mW cI cZ cS cC cJ a v)[8]? = some (a 8, .inl (cI, 2500, .inl (v 8))) := mW_at (by decide)
theorem at_45 {cI cZ cS cC cJ : ClassId} {a : Nat → Nat} {v : Nat → Nat → Int32} : (mW cI cZ cS cC cJ a v)[45]? = some (a 45, .inr (6, [.int (v 45 0), .int (v 45 1), .int (v 45 2), .int (v 45 3), .int (v 45 4), .int (v 45 5), .int (v 45 6), .int (v 45 7), .int (v 45 8), .ref (a 46), .ref (a 47), .ref (a 48), .ref (a 49), .ref (a 50), .ref (a 51), .ref (a 52), .ref (a 53), .ref (a 54), .ref (a 55), .ref (a 56), .ref (a 57), .ref (a 58), .ref (a 59), .ref (a 60), .ref (a 61), .ref (a 62), .ref (a 63), .ref (a 64), .ref (a 65), .ref (a 66), .ref (a 67), .ref (a 68), .ref (a 69), .ref (a 70), .ref (a 71), .ref (a 72), .ref (a 73), .ref (a 74), .ref (a 75), .ref (a 76), .ref (a 77), .ref (a 78), .ref (a 79)])) := mW_at (by decide)
theorem at_46 {cI cZ cS cC cJ : ClassId} {a : Nat → Nat} {v : Nat → Nat → Int32} : (mW cI cZ cS cC cJ a v)[46]? = some (a 46, .inl (cI, 12, .inl (v 46))) := mW_at (by decide)
theorem at_47 {cI cZ cS cC cJ : ClassId} {a : Nat → Nat} {v : Nat → Nat → Int32} : (mW cI cZ cS cC cJ a v)[47]? = some (a 47, .inl (cI, 12, .inl (v 47))) := mW_at (by decide)
theorem at_48 {cI cZ cS cC cJ : ClassId} {a : Nat → Nat} {v : Nat → Nat → Int32} : (mW cI cZ cS cC cJ a v)[48]? = some (a 48, .inl (cI, 12, .inl (v 48))) := mW_at (by decide)
theorem at_49 {cI cZ cS cC cJ : ClassId} {a : Nat → Nat} {v : Nat → Nat → Int32} : (mW cI cZ cS cC cJ a v)[49]? = some (a 49, .inl (cI, 12, .inl (v 49))) := mW_at (by decide)
theorem at_50 {cI cZ cS cC cJ : ClassId} {a : Nat → Nat} {v : Nat → Nat → Int32} : (mW cI cZ cS cC cJ a v)[50]? = some (a 50, .inl (cI, 12, .inl (v 50))) := mW_at (by decide)
theorem at_51 {cI cZ cS cC cJ : ClassId} {a : Nat → Nat} {v : Nat → Nat → Int32} : (mW cI cZ cS cC cJ a v)[51]? = some (a 51, .inl (cI, 12, .inl (v 51))) := mW_at (by decide)
theorem at_52 {cI cZ cS cC cJ : ClassId} {a : Nat → Nat} {v : Nat → Nat → Int32} : (mW cI cZ cS cC cJ a v)[52]? = some (a 52, .inl (cI, 12, .inl (v 52))) := mW_at (by decide)
theorem at_53 {cI cZ cS cC cJ : ClassId} {a : Nat → Nat} {v : Nat → Nat → Int32} : (mW cI cZ cS cC cJ a v)[53]? = some (a 53, .inl (cI, 12, .inl (v 53))) := mW_at (by decide)
theorem at_54 {cI cZ cS cC cJ : ClassId} {a : Nat → Nat} {v : Nat → Nat → Int32} : (mW cI cZ cS cC cJ a v)[54]? = some (a 54, .inl (cI, 12, .inl (v 54))) := mW_at (by decide)
theorem at_55 {cI cZ cS cC cJ : ClassId} {a : Nat → Nat} {v : Nat → Nat → Int32} : (mW cI cZ cS cC cJ a v)[55]? = some (a 55, .inl (cI, 12, .inl (v 55))) := mW_at (by decide)
theorem at_56 {cI cZ cS cC cJ : ClassId} {a : Nat → Nat} {v : Nat → Nat → Int32} : (mW cI cZ cS cC cJ a v)[56]? = some (a 56, .inl (cI, 12, .inl (v 56))) := mW_at (by decide)
theorem at_57 {cI cZ cS cC cJ : ClassId} {a : Nat → Nat} {v : Nat → Nat → Int32} : (mW cI cZ cS cC cJ a v)[57]? = some (a 57, .inl (cI, 12, .inl (v 57))) := mW_at (by decide)
theorem at_58 {cI cZ cS cC cJ : ClassId} {a : Nat → Nat} {v : Nat → Nat → Int32} : (mW cI cZ cS cC cJ a v)[58]? = some (a 58, .inl (cZ, 12, .inl (v 58))) := mW_at (by decide)
theorem at_59 {cI cZ cS cC cJ : ClassId} {a : Nat → Nat} {v : Nat → Nat → Int32} : (mW cI cZ cS cC cJ a v)[59]? = some (a 59, .inl (cZ, 144, .inl (v 59))) := mW_at (by decide)
theorem at_60 {cI cZ cS cC cJ : ClassId} {a : Nat → Nat} {v : Nat → Nat → Int32} : (mW cI cZ cS cC cJ a v)[60]? = some (a 60, .inl (cZ, 17, .inl (v 60))) := mW_at (by decide)
theorem at_61 {cI cZ cS cC cJ : ClassId} {a : Nat → Nat} {v : Nat → Nat → Int32} : (mW cI cZ cS cC cJ a v)[61]? = some (a 61, .inl (cI, 120, .inl (v 61))) := mW_at (by decide)
theorem at_62 {cI cZ cS cC cJ : ClassId} {a : Nat → Nat} {v : Nat → Nat → Int32} : (mW cI cZ cS cC cJ a v)[62]? = some (a 62, .inl (cI, 72, .inl (v 62))) := mW_at (by decide)
theorem at_63 {cI cZ cS cC cJ : ClassId} {a : Nat → Nat} {v : Nat → Nat → Int32} : (mW cI cZ cS cC cJ a v)[63]? = some (a 63, .inl (cI, 72, .inl (v 63))) := mW_at (by decide)
theorem at_64 {cI cZ cS cC cJ : ClassId} {a : Nat → Nat} {v : Nat → Nat → Int32} : (mW cI cZ cS cC cJ a v)[64]? = some (a 64, .inl (cI, 16, .inl (v 64))) := mW_at (by decide)
theorem at_65 {cI cZ cS cC cJ : ClassId} {a : Nat → Nat} {v : Nat → Nat → Int32} : (mW cI cZ cS cC cJ a v)[65]? = some (a 65, .inl (cI, 72, .inl (v 65))) := mW_at (by decide)
theorem at_66 {cI cZ cS cC cJ : ClassId} {a : Nat → Nat} {v : Nat → Nat → Int32} : (mW cI cZ cS cC cJ a v)[66]? = some (a 66, .inl (cI, 72, .inl (v 66))) := mW_at (by decide)
theorem at_67 {cI cZ cS cC cJ : ClassId} {a : Nat → Nat} {v : Nat → Nat → Int32} : (mW cI cZ cS cC cJ a v)[67]? = some (a 67, .inl (cI, 600, .inl (v 67))) := mW_at (by decide)
theorem at_68 {cI cZ cS cC cJ : ClassId} {a : Nat → Nat} {v : Nat → Nat → Int32} : (mW cI cZ cS cC cJ a v)[68]? = some (a 68, .inl (cI, 600, .inl (v 68))) := mW_at (by decide)
theorem at_69 {cI cZ cS cC cJ : ClassId} {a : Nat → Nat} {v : Nat → Nat → Int32} : (mW cI cZ cS cC cJ a v)[69]? = some (a 69, .inl (cI, 600, .inl (v 69))) := mW_at (by decide)
theorem at_70 {cI cZ cS cC cJ : ClassId} {a : Nat → Nat} {v : Nat → Nat → Int32} : (mW cI cZ cS cC cJ a v)[70]? = some (a 70, .inl (cI, 600, .inl (v 70))) := mW_at (by decide)
theorem at_71 {cI cZ cS cC cJ : ClassId} {a : Nat → Nat} {v : Nat → Nat → Int32} : (mW cI cZ cS cC cJ a v)[71]? = some (a 71, .inl (cI, 600, .inl (v 71))) := mW_at (by decide)
theorem at_72 {cI cZ cS cC cJ : ClassId} {a : Nat → Nat} {v : Nat → Nat → Int32} : (mW cI cZ cS cC cJ a v)[72]? = some (a 72, .inl (cZ, 600, .inl (v 72))) := mW_at (by decide)
theorem at_73 {cI cZ cS cC cJ : ClassId} {a : Nat → Nat} {v : Nat → Nat → Int32} : (mW cI cZ cS cC cJ a v)[73]? = some (a 73, .inl (cI, 500, .inl (v 73))) := mW_at (by decide)
theorem at_74 {cI cZ cS cC cJ : ClassId} {a : Nat → Nat} {v : Nat → Nat → Int32} : (mW cI cZ cS cC cJ a v)[74]? = some (a 74, .inl (cI, 500, .inl (v 74))) := mW_at (by decide)
theorem at_75 {cI cZ cS cC cJ : ClassId} {a : Nat → Nat} {v : Nat → Nat → Int32} : (mW cI cZ cS cC cJ a v)[75]? = some (a 75, .inl (cI, 500, .inl (v 75))) := mW_at (by decide)
theorem at_76 {cI cZ cS cC cJ : ClassId} {a : Nat → Nat} {v : Nat → Nat → Int32} : (mW cI cZ cS cC cJ a v)[76]? = some (a 76, .inl (cI, 500, .inl (v 76))) := mW_at (by decide)
theorem at_77 {cI cZ cS cC cJ : ClassId} {a : Nat → Nat} {v : Nat → Nat → Int32} : (mW cI cZ cS cC cJ a v)[77]? = some (a 77, .inl (cZ, 500, .inl (v 77))) := mW_at (by decide)
theorem at_78 {cI cZ cS cC cJ : ClassId} {a : Nat → Nat} {v : Nat → Nat → Int32} : (mW cI cZ cS cC cJ a v)[78]? = some (a 78, .inl (cZ, 12, .inl (v 78))) := mW_at (by decide)
theorem at_79 {cI cZ cS cC cJ : ClassId} {a : Nat → Nat} {v : Nat → Nat → Int32} : (mW cI cZ cS cC cJ a v)[79]? = some (a 79, .inl (cZ, 12, .inl (v 79))) := mW_at (by decide)
theorem at_80 {cI cZ cS cC cJ : ClassId} {a : Nat → Nat} {v : Nat → Nat → Int32} : (mW cI cZ cS cC cJ a v)[80]? = some (a 80, .inl (cJ, 1, .inr (.inl (fun j => (v 80 j).toInt64)))) := mW_at (by decide)
def kH (v0 v : Nat → Nat → Int32) : Prop := (0 ≤ (v 0 5).toInt ∧ (v 0 5).toInt ≤ 12) ∧ ∀ c, 45 ≤ c → v c = v0 c
def kJ (v0 v : Nat → Nat → Int32) : Prop := kH v0 v ∧ v 4 = v0 4
def kX (v0 v : Nat → Nat → Int32) : Prop := v 0 5 = v0 0 5 ∧ v 0 6 = v0 0 6 ∧ v 5 = v0 5
def kI (v0 v : Nat → Nat → Int32) : Prop := kJ v0 v ∧ kX v0 v
theorem kH.sc {v0 v : Nat → Nat → Int32} (h : kH v0 v) : 0 ≤ (v 0 5).toInt ∧ (v 0 5).toInt ≤ 12 := h.1
theorem kJ.sc {v0 v : Nat → Nat → Int32} (h : kJ v0 v) : 0 ≤ (v 0 5).toInt ∧ (v 0 5).toInt ≤ 12 := h.1.1
theorem kI.sc {v0 v : Nat → Nat → Int32} (h : kI v0 v) : 0 ≤ (v 0 5).toInt ∧ (v 0 5).toInt ≤ 12 := h.1.1.1
theorem kH.fr {v0 v : Nat → Nat → Int32} (h : kH v0 v) : ∀ c, 45 ≤ c → v c = v0 c := h.2
theorem kJ.fr {v0 v : Nat → Nat → Int32} (h : kJ v0 v) : ∀ c, 45 ≤ c → v c = v0 c := h.1.2
theorem kI.fr {v0 v : Nat → Nat → Int32} (h : kI v0 v) : ∀ c, 45 ≤ c → v c = v0 c := h.1.1.2
theorem kH.self {v0 v : Nat → Nat → Int32} (h : kH v0 v) : kI v v := ⟨⟨⟨h.1, fun _ _ => rfl⟩, rfl⟩, rfl, rfl, rfl⟩
theorem kJ.self {v0 v : Nat → Nat → Int32} (h : kJ v0 v) : kI v v := h.1.self
theorem kI.self {v0 v : Nat → Nat → Int32} (h : kI v0 v) : kI v v := h.1.1.self
theorem kI.toJ {v0 v : Nat → Nat → Int32} (h : kI v0 v) : kJ v0 v := h.1
theorem kI.toH {v0 v : Nat → Nat → Int32} (h : kI v0 v) : kH v0 v := h.1.1
theorem kH.trans {v0 v u : Nat → Nat → Int32} (h : kH v0 v) (h2 : kH v u) : kH v0 u := ⟨h2.1, fun c hc => (h2.2 c hc).trans (h.2 c hc)⟩
theorem kJ.trans {v0 v u : Nat → Nat → Int32} (h : kJ v0 v) (h2 : kI v u) : kJ v0 u := ⟨h.1.trans h2.1.1, h2.1.2.trans h.2⟩
theorem kI.trans {v0 v u : Nat → Nat → Int32} (h : kI v0 v) (h2 : kI v u) : kI v0 u := ⟨h.1.trans h2, h2.2.1.trans h.2.1, h2.2.2.1.trans h.2.2.1, h2.2.2.2.trans h.2.2.2⟩
theorem kH.put {v0 v v1 : Nat → Nat → Int32} {c : Nat} {x : Nat → Int32} (h : kH v0 v) (e : v1 = mU v c x) (hc : 0 < c ∧ c < 45) : kH v0 v1 := by
  subst e
  refine ⟨by rw [mU_ne _ _ (by omega)]; exact h.1, fun d hd => by rw [mU_ne _ _ (by omega)]; exact h.2 d hd⟩
theorem kJ.put {v0 v v1 : Nat → Nat → Int32} {c : Nat} {x : Nat → Int32} (h : kJ v0 v) (e : v1 = mU v c x) (hc : 0 < c ∧ c < 45 ∧ c ≠ 4) : kJ v0 v1 := by
  refine ⟨h.1.put e ⟨hc.1, hc.2.1⟩, ?_⟩
  subst e
  rw [mU_ne _ _ (by omega)]
  exact h.2
theorem kI.put {v0 v v1 : Nat → Nat → Int32} {c : Nat} {x : Nat → Int32} (h : kI v0 v) (e : v1 = mU v c x) (hc : 0 < c ∧ c < 45 ∧ c ≠ 5 ∧ c ≠ 4) : kI v0 v1 := by
  refine ⟨h.1.put e ⟨hc.1, hc.2.1, hc.2.2.2⟩, ?_⟩
  subst e
  exact ⟨by rw [mU_ne _ _ (by omega)]; exact h.2.1, by rw [mU_ne _ _ (by omega)]; exact h.2.2.1, by rw [mU_ne _ _ (by omega)]; exact h.2.2.2⟩
theorem kJ.putK {v0 v v1 : Nat → Nat → Int32} {k : Nat} {y : Int32} (h : kJ v0 v) (e : v1 = mU v 0 (upd (v 0) k y)) (hk : 5 ≠ k ∨ (0 ≤ y.toInt ∧ y.toInt ≤ 12)) : kJ v0 v1 := by
  subst e
  refine ⟨⟨?_, fun d hd => by rw [mU_ne _ _ (by omega)]; exact h.1.2 d hd⟩, by rw [mU_ne _ _ (by omega)]; exact h.2⟩
  rw [mU_self]
  by_cases z : 5 = k
  · subst z
    rcases hk with hk | hk
    · exact absurd rfl hk
    · simpa [upd] using hk
  · simpa [upd, z] using h.1.1
theorem kI.putK {v0 v v1 : Nat → Nat → Int32} {k : Nat} {y : Int32} (h : kI v0 v) (e : v1 = mU v 0 (upd (v 0) k y)) (hk : 5 ≠ k ∧ 6 ≠ k) : kI v0 v1 := by
  refine ⟨h.1.putK e (Or.inl hk.1), ?_⟩
  subst e
  rw [kX, mU_self, mU_ne (d := 5) _ _ (by decide)]
  simp only [upd, if_neg hk.1, if_neg hk.2]
  exact h.2
def mN (U : State) : Prop := va_Nw (.methodLinkNest RX3 42 yX5_isIn RX5) U ∧ va_Nw (.methodLinkNest RX4 15 yX5_isIn RX5) U ∧ va_Nw (.methodLinkNest RX0 67 yX5_isIn RX5) U
theorem kt_lt12 {k t : Int32} {i : Nat} (ht : 0 ≤ t.toInt ∧ t.toInt ≤ 12) (ek : k = nI i) (hi : i ≤ 12) (c : ¬ t ≤ k) : i < 12 := by
  rw [Int32.le_iff_toInt_le, ek, nI_toInt (by omega)] at c
  omega
theorem kt_idx {x : Int32} {n : Nat} (h0 : 0 ≤ x.toInt) (h1 : x.toInt < n) : ∃ i, i < n ∧ x = nI i := by
  obtain ⟨j, hj, e⟩ := nI_of (x := x) (by rw [Int32.lt_iff_toInt_lt]; show ¬ x.toInt < 0; omega)
  refine ⟨j, ?_, e⟩
  rw [e, nI_toInt hj] at h1
  omega
theorem kt_inN {x : Int32} {i n : Nat} (e : x = nI i) (h : i < n) (hn : n < 2 ^ 31) : vp_in x n := by
  rw [e]
  exact vp_in_nI h hn
theorem m_aldS {p : Program} {l : Launch} {e : Env} {R : Room} {s : State} {m : MethodId} {args : Array Value} {below : List Frame} {meth : Method} {c : Code} {H : Heap} {locs : List Loc} {cells slots : Nat} {Q : State → Prop} {cc : ByteArray} {pc : Nat} {ls : Array Slot} {rest : List Value} {D : va_G} {cl : List vw_C} {cI cZ cS cC cJ : ClassId} {a : Nat → Nat} {v : Nat → Nat → Int32} (hexec : p.tables.exec = Jvm.exec) (hb : c.code = cc) (hK : va_K D cl [(cI, .int), (cZ, .boolean), (cS, .object RX3), (cC, .object RX0), (cJ, .long)] s) (hP : va_P D cl (mW cI cZ cS cC cJ a v) H) {x : Int32} {i : Nat} (ex : x = nI i) (hi : i < 12) (hdg : decode cc pc = .ok (.aaload, 1)) (kk : W p l e R s m args below meth c H locs cells slots Q (F0 m (pc + 1) ls (.ref (a (10 + 3 * i)) :: rest))) : W p l e R s m args below meth c H locs cells slots Q (F0 m pc ls (.int x :: .ref (a 1) :: rest)) := by
  subst ex
  refine va_aldq hexec hb hK hP 1 2 at_1 rfl (vp_in_nI hi (by decide)) hdg ?_
  rw [nI_clamp (by omega)]
  exact kk
theorem m_aldC {p : Program} {l : Launch} {e : Env} {R : Room} {s : State} {m : MethodId} {args : Array Value} {below : List Frame} {meth : Method} {c : Code} {H : Heap} {locs : List Loc} {cells slots : Nat} {Q : State → Prop} {cc : ByteArray} {pc : Nat} {ls : Array Slot} {rest : List Value} {D : va_G} {cl : List vw_C} {cI cZ cS cC cJ : ClassId} {a : Nat → Nat} {v : Nat → Nat → Int32} (hexec : p.tables.exec = Jvm.exec) (hb : c.code = cc) (hK : va_K D cl [(cI, .int), (cZ, .boolean), (cS, .object RX3), (cC, .object RX0), (cJ, .long)] s) (hP : va_P D cl (mW cI cZ cS cC cJ a v) H) {x : Int32} {i : Nat} (ex : x = nI i) (hi : i < 12) (hdg : decode cc pc = .ok (.aaload, 1)) (kk : W p l e R s m args below meth c H locs cells slots Q (F0 m (pc + 1) ls (.ref (a (9 + 3 * i)) :: rest))) : W p l e R s m args below meth c H locs cells slots Q (F0 m pc ls (.int x :: .ref (a 2) :: rest)) := by
  subst ex
  refine va_aldq hexec hb hK hP 2 3 at_2 rfl (vp_in_nI hi (by decide)) hdg ?_
  rw [nI_clamp (by omega)]
  exact kk
def dnb (x : Int32) (w : Nat) : Prop := (x >>> (nI w &&& 31)) &&& 1 ≠ 0
theorem dnb_e (w : Nat) (hw : w < 17) : (nI w &&& 31).toBitVec.smod 32 = BitVec.ofNat 32 w := by
  match w, hw with
  | 0, _ => decide
  | 1, _ => decide
  | 2, _ => decide
  | 3, _ => decide
  | 4, _ => decide
  | 5, _ => decide
  | 6, _ => decide
  | 7, _ => decide
  | 8, _ => decide
  | 9, _ => decide
  | 10, _ => decide
  | 11, _ => decide
  | 12, _ => decide
  | 13, _ => decide
  | 14, _ => decide
  | 15, _ => decide
  | 16, _ => decide
  | w + 17, h => exact absurd h (by omega)
theorem dnb_iff {x : Int32} {w : Nat} (hw : w < 17) : dnb x w ↔ x.toBitVec.getLsbD w = true := by
  have h : ((x >>> (nI w &&& 31)) &&& 1).toBitVec = (x.toBitVec.sshiftRight w) &&& 1#32 := by
    rw [Int32.toBitVec_and, Int32.toBitVec_shiftRight, dnb_e w hw, BitVec.sshiftRight_eq']
    have : (BitVec.ofNat 32 w).toNat = w := by simp; omega
    rw [this]
    rfl
  unfold dnb
  rw [Ne, ← Int32.toBitVec_inj, h, BitVec.and_one_eq_setWidth_ofBool_getLsbD, BitVec.getLsbD_sshiftRight]
  simp only [Nat.add_zero]
  have h0 : (w + 0) < 32 := by omega
  cases hb : x.toBitVec.getLsbD w
  · simp [hb, h0, show w < 32 by omega]
  · simp [hb, h0, show w < 32 by omega]

theorem dnb_1 (w : Nat) (hw : w < 17) : ((1 : Int32) <<< (nI w &&& 31)).toBitVec = BitVec.twoPow 32 w := by
  match w, hw with
  | 0, _ => decide
  | 1, _ => decide
  | 2, _ => decide
  | 3, _ => decide
  | 4, _ => decide
  | 5, _ => decide
  | 6, _ => decide
  | 7, _ => decide
  | 8, _ => decide
  | 9, _ => decide
  | 10, _ => decide
  | 11, _ => decide
  | 12, _ => decide
  | 13, _ => decide
  | 14, _ => decide
  | 15, _ => decide
  | 16, _ => decide
  | w + 17, h => exact absurd h (by omega)
theorem dnb_xor {x : Int32} {w u : Nat} (hw : w < 17) (hu : u < 17) : dnb (x ^^^ ((1 : Int32) <<< (nI w &&& 31))) u ↔ (if u = w then ¬ dnb x u else dnb x u) := by
  rw [dnb_iff hu, Int32.toBitVec_xor, dnb_1 w hw, BitVec.getLsbD_xor, BitVec.getLsbD_twoPow]
  by_cases c : u = w
  · subst c
    rw [if_pos rfl, dnb_iff hu]
    cases x.toBitVec.getLsbD u <;> simp [show u < 32 by omega]
  · rw [if_neg c, dnb_iff hu]
    cases x.toBitVec.getLsbD u <;> simp [show ¬ w = u from fun e => c e.symm]

theorem dnb_or {x y : Int32} {u : Nat} (hu : u < 17) : dnb (x ||| y) u ↔ dnb x u ∨ dnb y u := by
  rw [dnb_iff (x := x ||| y) hu, dnb_iff (x := x) hu, dnb_iff (x := y) hu, Int32.toBitVec_or, BitVec.getLsbD_or, Bool.or_eq_true]
theorem dnb_0 {u : Nat} (hu : u < 17) : ¬ dnb 0 u := by
  rw [dnb_iff hu]
  show ¬ (0#32).getLsbD u = true
  simp
theorem dnb_bit {w u : Nat} (hw : w < 17) (hu : u < 17) : dnb ((1 : Int32) <<< (nI w &&& 31)) u ↔ u = w := by
  rw [dnb_iff hu, dnb_1 w hw, BitVec.getLsbD_twoPow]
  by_cases c : u = w
  · subst c; simp [show u < 32 by omega]
  · simp [show ¬ w = u from fun e => c e.symm, c]
theorem dnb_andn {x : Int32} {w u : Nat} (hw : w < 17) (hu : u < 17) : dnb (x &&& (((1 : Int32) <<< (nI w &&& 31)) ^^^ (-1))) u ↔ (u ≠ w ∧ dnb x u) := by
  have h1 : (-1 : Int32).toBitVec = BitVec.allOnes 32 := by decide
  rw [dnb_iff (x := x &&& (((1 : Int32) <<< (nI w &&& 31)) ^^^ (-1))) hu, dnb_iff (x := x) hu, Int32.toBitVec_and, Int32.toBitVec_xor, dnb_1 w hw, h1, BitVec.getLsbD_and, BitVec.getLsbD_xor, BitVec.getLsbD_twoPow, BitVec.getLsbD_allOnes]
  by_cases c : u = w
  · subst c; simp [show u < 32 by omega]
  · cases x.toBitVec.getLsbD u <;> simp [show ¬ w = u from fun e => c e.symm, c, show u < 32 by omega]
def ck (p : Int32) : Nat := p.toNatClampNeg
def isS (n p : Int32) : Prop := 0 ≤ p.toInt ∧ p.toInt < n.toInt
theorem ck_of {p : Int32} {i : Nat} (e : p = nI i) (h : i < 2 ^ 31) : ck p = i := by
  unfold ck
  rw [e, nI_clamp h]
theorem isS_of {n p : Int32} {i : Nat} (e : p = nI i) (h : i < 2 ^ 31) (hl : (i : Int) < n.toInt) : isS n p := by
  unfold isS
  rw [e, nI_toInt h]
  exact ⟨by omega, hl⟩
/-- what one comes to by one edge or more: the smallest set that is closed -/
def Rch (e : Nat → Nat → Prop) (s y : Nat) : Prop := ∀ P : Nat → Prop, (∀ z, z < 12 → e s z → P z) → (∀ x z, x < 12 → z < 12 → P x → e x z → P z) → P y
theorem Rch.base {e : Nat → Nat → Prop} {s y : Nat} (hy : y < 12) (h : e s y) : Rch e s y := fun _ h1 _ => h1 y hy h
theorem Rch.step {e : Nat → Nat → Prop} {s x y : Nat} (hx : x < 12) (hy : y < 12) (h : Rch e s x) (he : e x y) : Rch e s y := fun P h1 h2 => h2 x y hx hy (h P h1 h2) he
theorem Rch.mono {e f : Nat → Nat → Prop} {s y : Nat} (hs : s < 12) (h : ∀ x z, x < 12 → z < 12 → e x z → f x z) (k : Rch e s y) : Rch f s y := fun P h1 h2 => k P (fun z hz q => h1 z hz (h s z hs hz q)) (fun x z hx hz p q => h2 x z hx hz p (h x z hx hz q))
theorem Rch.iff {e f : Nat → Nat → Prop} {s y : Nat} (hs : s < 12) (h : ∀ x z, x < 12 → z < 12 → (e x z ↔ f x z)) : Rch e s y ↔ Rch f s y := ⟨Rch.mono hs (fun x z hx hz => (h x z hx hz).mp), Rch.mono hs (fun x z hx hz => (h x z hx hz).mpr)⟩
def hgS (n : Int32) (e : Nat → Nat → Prop) (p0 p1 : Int32) : Prop := isS n p0 ∧ isS n p1 ∧ Rch e (ck p0) (ck p1)
def okK (n : Int32) (e : Nat → Nat → Prop) (p0 p1 p2 : Int32) : Prop := isS n p0 ∧ isS n p1 ∧ ¬ (e (ck p0) (ck p1) ↔ p2 = 1) ∧ (p2 ≠ 0 → p0 ≠ p1 ∧ ¬ Rch e (ck p1) (ck p0))
def okR (n : Int32) (f : Nat → Int32) (p0 p1 p2 : Int32) : Prop := isS n p0 ∧ isS n p1 ∧ f (12 * ck p0 + ck p1) ≠ p2 ∧ (p2 ≠ 0 → p0 ≠ p1 ∧ ¬ Rch (fun x z => f (12 * x + z) ≠ 0) (ck p1) (ck p0))
/-- how many of the first bits are set -/
def cb (x : Int32) : Nat → Nat
  | 0 => 0
  | n + 1 => cb x n + (if x.toBitVec.getLsbD n = true then 1 else 0)
theorem cb_mono {x y : Int32} : ∀ n, n ≤ 12 → (∀ u, u < n → dnb x u → dnb y u) → cb x n ≤ cb y n
  | 0, _, _ => Nat.le_refl _
  | n + 1, hn, h => by
    have ih := cb_mono (x := x) (y := y) n (by omega) (fun u hu => h u (by omega))
    have hh : x.toBitVec.getLsbD n = true → y.toBitVec.getLsbD n = true := fun z => (dnb_iff (by omega)).mp (h n (by omega) ((dnb_iff (by omega)).mpr z))
    simp only [cb]
    by_cases c : x.toBitVec.getLsbD n = true
    · rw [if_pos c, if_pos (hh c)]; omega
    · rw [if_neg c]; split <;> omega
theorem cb_lt {x y : Int32} {w : Nat} (h1 : ¬ dnb x w) (h2 : dnb y w) : ∀ n, n ≤ 12 → w < n → (∀ u, u < n → dnb x u → dnb y u) → cb x n < cb y n
  | 0, _, h, _ => absurd h (by omega)
  | n + 1, hn, hw, h => by
    simp only [cb]
    by_cases c : w = n
    · subst c
      have ih := cb_mono (x := x) (y := y) w (by omega) (fun u hu => h u (by omega))
      rw [dnb_iff (by omega)] at h1 h2
      rw [if_neg h1, if_pos h2]; omega
    · have ih := cb_lt h1 h2 n (by omega) (by omega) (fun u hu => h u (by omega))
      have hh : x.toBitVec.getLsbD n = true → y.toBitVec.getLsbD n = true := fun z => (dnb_iff (by omega)).mp (h n (by omega) ((dnb_iff (by omega)).mpr z))
      by_cases c : x.toBitVec.getLsbD n = true
      · rw [if_pos c, if_pos (hh c)]; omega
      · rw [if_neg c]; split <;> omega
theorem cb_le {x : Int32} : ∀ n, cb x n ≤ n
  | 0 => Nat.le_refl _
  | n + 1 => by
    have ih := cb_le (x := x) n
    simp only [cb]
    split <;> omega
theorem cb_all {x : Int32} : ∀ n, n ≤ 12 → n ≤ cb x n → ∀ u, u < n → dnb x u
  | 0, _, _, u, hu => absurd hu (by omega)
  | n + 1, hn, h, u, hu => by
    have h0 := cb_le (x := x) n
    simp only [cb] at h
    by_cases c : x.toBitVec.getLsbD n = true
    · rw [if_pos c] at h
      by_cases z : u = n
      · subst z; exact (dnb_iff (by omega)).mpr c
      · exact cb_all n (by omega) (by omega) u (by omega)
    · rw [if_neg c] at h; omega
def Cl (d : Nat → Int32) (R : Int32) : Prop := ∀ x y, x < 12 → y < 12 → dnb R x → dnb (d x) y → dnb R y
def jO (d : Nat → Int32) (s : Nat) (B R : Int32) (i : Nat) : Prop := (∀ y, y < 12 → dnb (d s) y → dnb R y) ∧ (∀ y, y < 12 → dnb R y → Rch (fun x z => dnb (d x) z) s y) ∧ (R = B → Cl d R) ∧ (Cl d R ∨ i ≤ cb R 12)
def jI (d : Nat → Int32) (B R : Int32) (i : Nat) : Prop := ∀ y, y < 12 → (dnb R y ↔ dnb B y ∨ ∃ x, x < i ∧ dnb B x ∧ dnb (d x) y)
theorem jO.init {d : Nat → Int32} {s : Nat} : jO d s 0 (d s) 0 := ⟨fun _ _ h => h, fun _ hy h => Rch.base hy h, fun e x _ hx _ h _ => absurd h (by rw [e]; exact dnb_0 (by omega)), Or.inr (Nat.zero_le _)⟩
theorem jI.init {d : Nat → Int32} {B : Int32} : jI d B B 0 := fun _ _ => ⟨Or.inl, fun h => h.elim id (fun ⟨x, hx, _⟩ => absurd hx (by omega))⟩
theorem jI.yes {d : Nat → Int32} {B R R' : Int32} {i : Nat} (h : jI d B R i) (hb : dnb B i) (e : R' = R ||| d i) : jI d B R' (i + 1) := fun y hy => by
  rw [e, dnb_or (by omega), h y hy]
  constructor
  · rintro ((z | ⟨x, hx, z1, z2⟩) | z)
    · exact Or.inl z
    · exact Or.inr ⟨x, by omega, z1, z2⟩
    · exact Or.inr ⟨i, by omega, hb, z⟩
  · rintro (z | ⟨x, hx, z1, z2⟩)
    · exact Or.inl (Or.inl z)
    · by_cases c : x = i
      · subst c; exact Or.inr z2
      · exact Or.inl (Or.inr ⟨x, by omega, z1, z2⟩)
theorem jI.no {d : Nat → Int32} {B R R' : Int32} {i : Nat} (h : jI d B R i) (hb : ¬ dnb B i) (e : R' = R ||| 0) : jI d B R' (i + 1) := fun y hy => by
  rw [e, dnb_or (by omega), h y hy]
  constructor
  · rintro ((z | ⟨x, hx, z1, z2⟩) | z)
    · exact Or.inl z
    · exact Or.inr ⟨x, by omega, z1, z2⟩
    · exact absurd z (dnb_0 (by omega))
  · rintro (z | ⟨x, hx, z1, z2⟩)
    · exact Or.inl (Or.inl z)
    · by_cases c : x = i
      · subst c; exact absurd z1 hb
      · exact Or.inl (Or.inr ⟨x, by omega, z1, z2⟩)
theorem jI.done {d : Nat → Int32} {s : Nat} {B0 R0 R : Int32} {i n : Nat} (o : jO d s B0 R0 i) (j : jI d R0 R n) (hn : 12 ≤ n) (hn2 : n ≤ 12) : jO d s R0 R (i + 1) := by
  have hcl : Cl d R0 → Cl d R := fun c x y hx hy h he => by
    have h0 : dnb R0 x := by
      rcases (j x hx).mp h with z | ⟨x', hx', z1, z2⟩
      · exact z
      · exact c x' x (by omega) hx z1 z2
    exact (j y hy).mpr (Or.inr ⟨x, by omega, h0, he⟩)
  refine ⟨fun y hy h => (j y hy).mpr (Or.inl (o.1 y hy h)), fun y hy h => ?_, fun e x y hx hy h he => (j y hy).mpr (Or.inr ⟨x, by omega, by rw [← e]; exact h, he⟩), ?_⟩
  · rcases (j y hy).mp h with z | ⟨x, hx, z1, z2⟩
    · exact o.2.1 y hy z
    · exact Rch.step (by omega) hy (o.2.1 x (by omega) z1) z2
  · rcases o.2.2.2 with c | c
    · exact Or.inl (hcl c)
    · by_cases c2 : i + 1 ≤ cb R 12
      · exact Or.inr c2
      · refine Or.inl (hcl fun x y hx hy h he => Classical.byContradiction fun hno => ?_)
        have := cb_lt (x := R0) (y := R) (w := y) hno ((j y hy).mpr (Or.inr ⟨x, by omega, h, he⟩)) 12 (Nat.le_refl _) hy (fun u hu z => (j u hu).mpr (Or.inl z))
        omega
theorem jO.cl {d : Nat → Int32} {s : Nat} {B R : Int32} {i : Nat} (o : jO d s B R i) (hi : 12 ≤ i) : Cl d R := by
  rcases o.2.2.2 with c | c
  · exact c
  · exact fun x y hx hy _ _ => cb_all 12 (Nat.le_refl _) (by omega) y hy
theorem jO.fin {d : Nat → Int32} {s : Nat} {B R : Int32} {i w : Nat} (o : jO d s B R i) (c : Cl d R) (hw : w < 12) : dnb R w ↔ Rch (fun x z => dnb (d x) z) s w := ⟨o.2.1 w hw, fun h => h (fun y => dnb R y) (fun z hz e => o.1 z hz e) (fun x z hx hz p e => c x z hx hz p e)⟩
/-- behind Web.put -/
theorem put_fin {v u : Nat → Nat → Int32} {i0 w : Nat} {q p2 : Int32} (hu : u = mU v 4 (upd (v 4) i0 q)) (hq : ∀ y, y < 12 → (dnb q y ↔ if y = w then p2 ≠ 0 else dnb (v 4 i0) y)) (hb : p2 = 0 ∨ p2 = 1) : u 0 = v 0 ∧ u 5 = v 5 ∧ ∀ x y, x < 12 → y < 12 → (dnb (u 4 x) y ↔ if x = i0 ∧ y = w then p2 = 1 else dnb (v 4 x) y) := by
  subst hu
  refine ⟨mU_ne _ _ (by decide), mU_ne _ _ (by decide), fun x y hx hy => ?_⟩
  rw [mU_self]
  by_cases c : x = i0
  · subst c
    simp only [upd, if_true, true_and]
    rw [hq y hy]
    by_cases c2 : y = w
    · simp only [if_pos c2]
      rcases hb with rfl | rfl
      · exact ⟨fun z => absurd rfl z, fun z => absurd z (by decide)⟩
      · exact ⟨fun _ => rfl, fun _ => by decide⟩
    · simp only [if_neg c2]
  · simp only [upd, if_neg c, c, false_and, if_false]
abbrev sp_bad (p0 p1 p2 p3 n : Int32) : Prop := p0 < 0 ∨ 1 < p0 ∨ p1 < 0 ∨ 1023 < p1 ∨ p2 < 1 ∨ 63 < p2 ∨ p3 < 1 ∨ 10000 < p3 ∨ 12 ≤ n
def sp_sec (p0 p1 p2 p3 n : Int32) : Int32 := if sp_bad p0 p1 p2 p3 n then -1 else n
def sn_sec (p0 p1 p2 p3 n : Int32) : Int32 := if sp_bad p0 p1 p2 p3 n then n else n + 1
abbrev tk_bad (p n : Int32) : Prop := p.toInt < 0 ∨ 2000 < p.toInt ∨ 100000 < n.toInt + p.toInt
def sp_tk (p n : Int32) : Int32 := if tk_bad p n then -1 else n + p
def sn_tk (p n : Int32) : Int32 := if tk_bad p n then n else n + p
theorem L2 : (2 : Int32).toInt = 2 := rfl
theorem L3 : (3 : Int32).toInt = 3 := rfl
theorem L4 : (4 : Int32).toInt = 4 := rfl
theorem L6 : (6 : Int32).toInt = 6 := rfl
theorem L9 : (9 : Int32).toInt = 9 := rfl
theorem kt_heap {D : va_G} {cl : List vw_C} {ws : va_W} {t : State} {H : Heap} (ht : t.heap = H) (hP : va_P D cl ws H) : va_P D cl ws t.heap := by
  rw [ht]
  exact hP
theorem kt_heap2 {D : va_G} {cl : List vw_C} {ws : va_W} {t : State} {H : Heap} (ht : t.heap = H) (hP : va_P D cl ws t.heap) : va_P D cl ws H := by
  rw [← ht]
  exact hP
theorem mN_same {U : State} {g : JFrame} {mk : MethodId} {av : Array Value} (h : mN U) : mN (U.calling g mk av) := ⟨va_Nw.same rfl rfl h.1, va_Nw.same rfl rfl h.2.1, va_Nw.same rfl rfl h.2.2⟩
theorem mN_warm {s U : State} (hW : s.WarmedH U.vm) (h : mN s) : mN U := ⟨va_Nw.warmM hW h.1, va_Nw.warmM hW h.2.1, va_Nw.warmM hW h.2.2⟩
theorem kt_inc {x y : Int32} (h : 0 ≤ x.toInt ∧ x.toInt ≤ 12) (c : x < 12) (e : y = x + 1) : 0 ≤ y.toInt ∧ y.toInt ≤ 12 := by
  rw [Int32.lt_iff_toInt_lt, L12] at c
  obtain ⟨i, hi, ei⟩ := kt_idx (x := x) (n := 12) h.1 c
  rw [e, ei, nI_1, nI_toInt (by omega)]
  omega
theorem bit_eq {a b : Int32} (ha : a = 0 ∨ a = 1) (hb : b = 0 ∨ b = 1) (h : a = 1 ↔ b = 1) : a = b := by
  rcases ha with rfl | rfl <;> rcases hb with rfl | rfl
  · rfl
  · exact absurd (h.mpr rfl) (by decide)
  · exact absurd (h.mp rfl) (by decide)
  · rfl
theorem kt_addK {x y : Int32} (hx : -1000000 ≤ x.toInt) (hx2 : x.toInt ≤ 1000000) (hy : y = x + 1) : y.toInt = x.toInt + 1 := by
  rw [hy, Int32.toInt_add, L1]
  exact Int.bmod_eq_of_le (by omega) (by omega)
theorem kt_mn {t x y : Int32} (e : t = if y < x then y else x) : t.toInt ≤ x.toInt := by
  rw [e]
  split
  · next h => rw [Int32.lt_iff_toInt_lt] at h; omega
  · exact Int.le_refl _
theorem kt_mx {t x y : Int32} (e : t = if x < y then y else x) : (x.toInt ≤ t.toInt ∧ y.toInt ≤ t.toInt) ∧ (t.toInt = x.toInt ∨ t.toInt = y.toInt) := by
  rw [e]
  split
  · next h => rw [Int32.lt_iff_toInt_lt] at h; exact ⟨⟨by omega, by omega⟩, Or.inr rfl⟩
  · next h => rw [Int32.lt_iff_toInt_lt] at h; exact ⟨⟨by omega, by omega⟩, Or.inl rfl⟩
theorem kt_add {x y z : Int32} (hx : 0 ≤ x.toInt ∧ x.toInt ≤ 100000) (hy : 0 ≤ y.toInt ∧ y.toInt ≤ 100000) (e : z = x + y) : z.toInt = x.toInt + y.toInt := by
  rw [e, Int32.toInt_add]
  exact Int.bmod_eq_of_le (by omega) (by omega)
theorem kt_sub {x y z : Int32} (hx : 0 ≤ x.toInt ∧ x.toInt ≤ 100000) (hy : 0 ≤ y.toInt ∧ y.toInt ≤ 100000) (e : z = x - y) : z.toInt = x.toInt - y.toInt := by
  rw [e, Int32.toInt_sub]
  exact Int.bmod_eq_of_le (by omega) (by omega)
theorem kt_ltB {k t : Int32} {i N : Nat} (hb : t.toInt ≤ N) (ek : k = nI i) (hi : i ≤ N) (c : ¬ t ≤ k) (hN : N < 2 ^ 31 := by decide) : i < N := by
  rw [Int32.le_iff_toInt_le, ek, nI_toInt (by omega)] at c
  omega
theorem kt_leB {k t : Int32} {i N : Nat} (hb : t.toInt < N) (ek : k = nI i) (hi : i ≤ N) (c : ¬ t < k) (hN : N < 2 ^ 31 := by decide) : i < N := by
  rw [Int32.lt_iff_toInt_lt, ek, nI_toInt (by omega)] at c
  omega
theorem kt_sw_1_5 (x : Int32) : x = 1 ∨ x = 2 ∨ x = 3 ∨ x = 4 ∨ x = 5 ∨ (x.toInt < 1 ∨ 5 < x.toInt) := by
  simp only [← Int32.toInt_inj, show (1 : Int32).toInt = 1 from rfl, show (2 : Int32).toInt = 2 from rfl, show (3 : Int32).toInt = 3 from rfl, show (4 : Int32).toInt = 4 from rfl, show (5 : Int32).toInt = 5 from rfl]
  omega
theorem kt_sw_0_11 (x : Int32) : x = 0 ∨ x = 1 ∨ x = 2 ∨ x = 3 ∨ x = 4 ∨ x = 5 ∨ x = 6 ∨ x = 7 ∨ x = 8 ∨ x = 9 ∨ x = 10 ∨ x = 11 ∨ (x.toInt < 0 ∨ 11 < x.toInt) := by
  simp only [← Int32.toInt_inj, show (0 : Int32).toInt = 0 from rfl, show (1 : Int32).toInt = 1 from rfl, show (2 : Int32).toInt = 2 from rfl, show (3 : Int32).toInt = 3 from rfl, show (4 : Int32).toInt = 4 from rfl, show (5 : Int32).toInt = 5 from rfl, show (6 : Int32).toInt = 6 from rfl, show (7 : Int32).toInt = 7 from rfl, show (8 : Int32).toInt = 8 from rfl, show (9 : Int32).toInt = 9 from rfl, show (10 : Int32).toInt = 10 from rfl, show (11 : Int32).toInt = 11 from rfl]
  omega
theorem kt_sw_0_7 (x : Int32) : x = 0 ∨ x = 1 ∨ x = 2 ∨ x = 3 ∨ x = 4 ∨ x = 5 ∨ x = 6 ∨ x = 7 ∨ (x.toInt < 0 ∨ 7 < x.toInt) := by
  simp only [← Int32.toInt_inj, show (0 : Int32).toInt = 0 from rfl, show (1 : Int32).toInt = 1 from rfl, show (2 : Int32).toInt = 2 from rfl, show (3 : Int32).toInt = 3 from rfl, show (4 : Int32).toInt = 4 from rfl, show (5 : Int32).toInt = 5 from rfl, show (6 : Int32).toInt = 6 from rfl, show (7 : Int32).toInt = 7 from rfl]
  omega
theorem kt_sw_1_4 (x : Int32) : x = 1 ∨ x = 2 ∨ x = 3 ∨ x = 4 ∨ (x.toInt < 1 ∨ 4 < x.toInt) := by
  simp only [← Int32.toInt_inj, show (1 : Int32).toInt = 1 from rfl, show (2 : Int32).toInt = 2 from rfl, show (3 : Int32).toInt = 3 from rfl, show (4 : Int32).toInt = 4 from rfl]
  omega
theorem kt_sw_0_3 (x : Int32) : x = 0 ∨ x = 1 ∨ x = 2 ∨ x = 3 ∨ (x.toInt < 0 ∨ 3 < x.toInt) := by
  simp only [← Int32.toInt_inj, show (0 : Int32).toInt = 0 from rfl, show (1 : Int32).toInt = 1 from rfl, show (2 : Int32).toInt = 2 from rfl, show (3 : Int32).toInt = 3 from rfl]
  omega
end
section
set_option maxHeartbeats 4000000 in
set_option maxRecDepth 100000 in
theorem c_X5_isIn (l : Launch) (dC : Nat → ClassId) (dI : Nat → Nat → Nat) (cI cZ cS cC cJ : ClassId) (a : Nat → Nat) (v : Nat → Nat → Int32) (sz : Nat) (p0 p1 : Int32) (hD : mDD a) (hI : kI v v) : Met l yX5_isIn (Cond.code yX5_isIn cX5_isIn 2 (some .boolean) :: WW) ({ frames := 0, cells := 0, slots := 0, locals := 0 }) (va_Pc [.int p0, .int p1] (fun U => U.heap.size = sz ∧ va_P (dC, dI) vwCl (mW cI cZ cS cC cJ a v) U.heap ∧ va_K (dC, dI) vwCl [(cI, .int), (cZ, .boolean), (cS, .object RX3), (cC, .object RX0), (cJ, .long)] U ∧ mN U)) (va_Qi (fun (r : Int32) (_u : Unit) => ((r = 0 ∨ r = 1) ∧ ∀ w, w < 16 → p1 = nI w → (r = 1 ↔ dnb p0 w))) (fun (_ : Unit) (t : State) => va_P (dC, dI) vwCl (mW cI cZ cS cC cJ a v) t.heap) (mA a sz)) 0 0 (mA a sz) := by
  refine Met.ofW (cc := cX5_isIn) (maxL := 2) (ret := (some .boolean)) (by decide) rfl ?_
  intro p e s m args below meth c s₁ B hml hv
  obtain ⟨rfl, hsz, hP, hK, hN⟩ := hv
  have hx := B.exec
  have hb := B.bytes
  have hr := B.returns
  have hts := atoms_spec (ws := Cond.code yX5_isIn cX5_isIn 2 (some .boolean) :: WW) B.pre
  have hown : s.vm.findClass RX5 = some m.cls := findClass_of_methodNamed B.named
  have hlocks := B.notSynchronized
  subst hsz
  have hAc : ∀ c, c < 81 → mA a s.heap.size (a c) := fun c h => Or.inl ⟨c, h, rfl⟩
  have hA : ∀ q : Nat, s.heap.size ≤ q → mA a s.heap.size q := fun q h => Or.inr h
  generalize hAe : mA a s.heap.size = A at hAc hA ⊢
  have hS : va_S A s.heap s.heap [] := va_S.rf
  have hl := lv_entry ([.int p0, .int p1]) (n := 2) (Nat.le_of_ble_eq_true rfl)
  rw [lg_entry_eq]
  generalize (lg_sl ([.int p0, .int p1]) ++ List.replicate (2 - (lg_sl ([.int p0, .int p1])).length) Slot.unset).toArray = ls at hl ⊢
  have hl : lv_has ls 2 [(0, .int p0), (1, .int p1)] := hl
  refine lv_iload_n hx hb dX5_isIn_0 rfl (lv_at hl 1 rfl) ?_
  refine lv_if_lt (tgt := 22) hx hb dX5_isIn_1 (by decide) (fun c_1 => ?_) (fun c_1 => ?_)
  · refine lv_iconst (v := 0) hx hb dX5_isIn_22 (by decide) ?_
    exact W.zret (v := 0) (ty := .boolean) hx hb hr rfl (fun t ht hW => ⟨⟨0, (), rfl, ⟨Or.inl rfl, fun w hw e => absurd c_1 (by rw [e]; simp only [Int32.lt_iff_toInt_lt, Int32.le_iff_toInt_le, nI_toInt (show w < 2 ^ 31 by omega), L0, L16]; omega)⟩, kt_heap ht hP⟩, hS.F ht⟩) hS.2.2 dX5_isIn_23
  · refine lv_iload_n hx hb dX5_isIn_4 rfl (lv_at hl 1 rfl) ?_
    refine lv_bipush (v := 16) hx hb dX5_isIn_5 (by decide) ?_
    refine lv_icmp_ge (tgt := 22) hx hb dX5_isIn_7 (by decide) (fun c_2 => ?_) (fun c_2 => ?_)
    · refine lv_iconst (v := 0) hx hb dX5_isIn_22 (by decide) ?_
      exact W.zret (v := 0) (ty := .boolean) hx hb hr rfl (fun t ht hW => ⟨⟨0, (), rfl, ⟨Or.inl rfl, fun w hw e => absurd c_2 (by rw [e]; simp only [Int32.lt_iff_toInt_lt, Int32.le_iff_toInt_le, nI_toInt (show w < 2 ^ 31 by omega), L0, L16]; omega)⟩, kt_heap ht hP⟩, hS.F ht⟩) hS.2.2 dX5_isIn_23
    · refine lv_iload_n hx hb dX5_isIn_10 rfl (lv_at hl 0 rfl) ?_
      refine lv_iload_n hx hb dX5_isIn_11 rfl (lv_at hl 1 rfl) ?_
      refine lv_ishr hx hb dX5_isIn_12 ?_
      refine lv_topi (fun t_3 et_3 => ?_)
      refine lv_iconst (v := 1) hx hb dX5_isIn_13 (by decide) ?_
      refine lv_iand hx hb dX5_isIn_14 ?_
      refine lv_topi (fun t_4 et_4 => ?_)
      refine lv_if_eq (tgt := 22) hx hb dX5_isIn_15 (by decide) (fun c_5 => ?_) (fun c_5 => ?_)
      · refine lv_iconst (v := 0) hx hb dX5_isIn_22 (by decide) ?_
        exact W.zret (v := 0) (ty := .boolean) hx hb hr rfl (fun t ht hW => ⟨⟨0, (), rfl, ⟨Or.inl rfl, fun w hw e => ⟨fun z => absurd z (by decide), fun z => absurd c_5 (by unfold dnb at z; rw [← e, ← et_3, ← et_4] at z; exact z)⟩⟩, kt_heap ht hP⟩, hS.F ht⟩) hS.2.2 dX5_isIn_23
      · refine lv_iconst (v := 1) hx hb dX5_isIn_18 (by decide) ?_
        refine lv_goto (tgt := 23) hx hb dX5_isIn_19 (by decide) ?_
        exact W.zret (v := 1) (ty := .boolean) hx hb hr rfl (fun t ht hW => ⟨⟨1, (), rfl, ⟨Or.inr rfl, fun w hw e => ⟨fun _ => by unfold dnb; rw [← e, ← et_3, ← et_4]; exact c_5, fun _ => rfl⟩⟩, kt_heap ht hP⟩, hS.F ht⟩) hS.2.2 dX5_isIn_23

set_option maxHeartbeats 4000000 in
set_option maxRecDepth 100000 in
theorem c_X2_isDown (l : Launch) (dC : Nat → ClassId) (dI : Nat → Nat → Nat) (cI cZ cS cC cJ : ClassId) (a : Nat → Nat) (v : Nat → Nat → Int32) (sz : Nat) (p0 : Int32) (hD : mDD a) (hI : kI v v) : Met l yX2_isDown (Cond.code yX2_isDown cX2_isDown 2 (some .boolean) :: WW) ({ frames := 0, cells := 0, slots := 0, locals := 0 }) (va_Pc [.ref (a 5), .int p0] (fun U => U.heap.size = sz ∧ va_P (dC, dI) vwCl (mW cI cZ cS cC cJ a v) U.heap ∧ va_K (dC, dI) vwCl [(cI, .int), (cZ, .boolean), (cS, .object RX3), (cC, .object RX0), (cJ, .long)] U ∧ mN U)) (va_Qi (fun (r : Int32) (_u : Unit) => ((r = 0 ∨ r = 1) ∧ ∀ w, w < 17 → p0 = nI w → (r = 1 ↔ dnb (v 5 1) w))) (fun (_ : Unit) (t : State) => va_P (dC, dI) vwCl (mW cI cZ cS cC cJ a v) t.heap) (mA a sz)) 0 0 (mA a sz) := by
  refine Met.ofW (cc := cX2_isDown) (maxL := 2) (ret := (some .boolean)) (by decide) rfl ?_
  intro p e s m args below meth c s₁ B hml hv
  obtain ⟨rfl, hsz, hP, hK, hN⟩ := hv
  have hx := B.exec
  have hb := B.bytes
  have hr := B.returns
  have hts := atoms_spec (ws := Cond.code yX2_isDown cX2_isDown 2 (some .boolean) :: WW) B.pre
  have hown : s.vm.findClass RX2 = some m.cls := findClass_of_methodNamed B.named
  have hlocks := B.notSynchronized
  subst hsz
  have hAc : ∀ c, c < 81 → mA a s.heap.size (a c) := fun c h => Or.inl ⟨c, h, rfl⟩
  have hA : ∀ q : Nat, s.heap.size ≤ q → mA a s.heap.size q := fun q h => Or.inr h
  generalize hAe : mA a s.heap.size = A at hAc hA ⊢
  have hS : va_S A s.heap s.heap [] := va_S.rf
  have hl := lv_entry ([.ref (a 5), .int p0]) (n := 2) (Nat.le_of_ble_eq_true rfl)
  rw [lg_entry_eq]
  generalize (lg_sl ([.ref (a 5), .int p0]) ++ List.replicate (2 - (lg_sl ([.ref (a 5), .int p0])).length) Slot.unset).toArray = ls at hl ⊢
  have hl : lv_has ls 2 [(0, .ref (a 5)), (1, .int p0)] := hl
  refine lv_iload_n hx hb dX2_isDown_0 rfl (lv_at hl 1 rfl) ?_
  refine lv_if_lt (tgt := 25) hx hb dX2_isDown_1 (by decide) (fun c_1 => ?_) (fun c_1 => ?_)
  · refine lv_iconst (v := 0) hx hb dX2_isDown_25 (by decide) ?_
    exact W.zret (v := 0) (ty := .boolean) hx hb hr rfl (fun t ht hW => ⟨⟨0, (), rfl, ⟨Or.inl rfl, fun w hw e => absurd c_1 (by rw [e, Int32.lt_iff_toInt_lt, nI_toInt (by omega)]; simp only [L0, L16]; omega)⟩, kt_heap ht hP⟩, hS.F ht⟩) hS.2.2 dX2_isDown_26
  · refine lv_iload_n hx hb dX2_isDown_4 rfl (lv_at hl 1 rfl) ?_
    refine lv_bipush (v := 16) hx hb dX2_isDown_5 (by decide) ?_
    refine lv_icmp_gt (tgt := 25) hx hb dX2_isDown_7 (by decide) (fun c_2 => ?_) (fun c_2 => ?_)
    · refine lv_iconst (v := 0) hx hb dX2_isDown_25 (by decide) ?_
      exact W.zret (v := 0) (ty := .boolean) hx hb hr rfl (fun t ht hW => ⟨⟨0, (), rfl, ⟨Or.inl rfl, fun w hw e => absurd c_2 (by rw [e, Int32.lt_iff_toInt_lt, nI_toInt (by omega)]; simp only [L0, L16]; omega)⟩, kt_heap ht hP⟩, hS.F ht⟩) hS.2.2 dX2_isDown_26
    · refine lv_aload_n hx hb dX2_isDown_10 rfl (lv_at hl 0 rfl) ?_
      refine va_get (D := (dC, dI)) (ci := 2) (v := .int (v 5 1)) (C := RX2) (T := TX2) (N := 2) hx hb hts (fun w h => List.mem_cons_of_mem _ (inWX2 w h)) hown hK hP 5 at_5 rfl 1 (by decide) (hts _ (List.mem_cons_of_mem _ kw_t1_47)) (fun _ h9 => h9) rfl dX2_isDown_11 ?_
      refine lv_topi (fun t_3 et_3 => ?_)
      refine lv_iload_n hx hb dX2_isDown_14 rfl (lv_at hl 1 rfl) ?_
      refine lv_ishr hx hb dX2_isDown_15 ?_
      refine lv_topi (fun t_4 et_4 => ?_)
      refine lv_iconst (v := 1) hx hb dX2_isDown_16 (by decide) ?_
      refine lv_iand hx hb dX2_isDown_17 ?_
      refine lv_topi (fun t_5 et_5 => ?_)
      refine lv_if_eq (tgt := 25) hx hb dX2_isDown_18 (by decide) (fun c_6 => ?_) (fun c_6 => ?_)
      · refine lv_iconst (v := 0) hx hb dX2_isDown_25 (by decide) ?_
        exact W.zret (v := 0) (ty := .boolean) hx hb hr rfl (fun t ht hW => ⟨⟨0, (), rfl, ⟨Or.inl rfl, fun w hw e => ⟨fun z => absurd z (by decide), fun z => absurd c_6 (by unfold dnb at z; rw [← e, ← et_3, ← et_4, ← et_5] at z; exact z)⟩⟩, kt_heap ht hP⟩, hS.F ht⟩) hS.2.2 dX2_isDown_26
      · refine lv_iconst (v := 1) hx hb dX2_isDown_21 (by decide) ?_
        refine lv_goto (tgt := 26) hx hb dX2_isDown_22 (by decide) ?_
        exact W.zret (v := 1) (ty := .boolean) hx hb hr rfl (fun t ht hW => ⟨⟨1, (), rfl, ⟨Or.inr rfl, fun w hw e => ⟨fun _ => by unfold dnb; rw [← e, ← et_3, ← et_4, ← et_5]; exact c_6, fun _ => rfl⟩⟩, kt_heap ht hP⟩, hS.F ht⟩) hS.2.2 dX2_isDown_26

set_option maxHeartbeats 4000000 in
set_option maxRecDepth 100000 in
theorem c_X1_isKept (l : Launch) (dC : Nat → ClassId) (dI : Nat → Nat → Nat) (cI cZ cS cC cJ : ClassId) (a : Nat → Nat) (v : Nat → Nat → Int32) (sz : Nat) (p0 : Int32) (hD : mDD a) (hI : kI v v) : Met l yX1_isKept (Cond.code yX1_isKept cX1_isKept 2 (some .boolean) :: WW) ({ frames := 0, cells := 0, slots := 0, locals := 0 }) (va_Pc [.ref (a 7), .int p0] (fun U => U.heap.size = sz ∧ va_P (dC, dI) vwCl (mW cI cZ cS cC cJ a v) U.heap ∧ va_K (dC, dI) vwCl [(cI, .int), (cZ, .boolean), (cS, .object RX3), (cC, .object RX0), (cJ, .long)] U ∧ mN U)) (va_Qi (fun (r : Int32) (_u : Unit) => (r = 0 ∨ (r = 1 ∧ ¬ p0 < 0 ∧ p0 < 500))) (fun (_ : Unit) (t : State) => va_P (dC, dI) vwCl (mW cI cZ cS cC cJ a v) t.heap) (mA a sz)) 0 0 (mA a sz) := by
  refine Met.ofW (cc := cX1_isKept) (maxL := 2) (ret := (some .boolean)) (by decide) rfl ?_
  intro p e s m args below meth c s₁ B hml hv
  obtain ⟨rfl, hsz, hP, hK, hN⟩ := hv
  have hx := B.exec
  have hb := B.bytes
  have hr := B.returns
  have hts := atoms_spec (ws := Cond.code yX1_isKept cX1_isKept 2 (some .boolean) :: WW) B.pre
  have hown : s.vm.findClass RX1 = some m.cls := findClass_of_methodNamed B.named
  have hlocks := B.notSynchronized
  subst hsz
  have hAc : ∀ c, c < 81 → mA a s.heap.size (a c) := fun c h => Or.inl ⟨c, h, rfl⟩
  have hA : ∀ q : Nat, s.heap.size ≤ q → mA a s.heap.size q := fun q h => Or.inr h
  generalize hAe : mA a s.heap.size = A at hAc hA ⊢
  have hS : va_S A s.heap s.heap [] := va_S.rf
  have hl := lv_entry ([.ref (a 7), .int p0]) (n := 2) (Nat.le_of_ble_eq_true rfl)
  rw [lg_entry_eq]
  generalize (lg_sl ([.ref (a 7), .int p0]) ++ List.replicate (2 - (lg_sl ([.ref (a 7), .int p0])).length) Slot.unset).toArray = ls at hl ⊢
  have hl : lv_has ls 2 [(0, .ref (a 7)), (1, .int p0)] := hl
  refine lv_iload_n hx hb dX1_isKept_0 rfl (lv_at hl 1 rfl) ?_
  refine lv_if_lt (tgt := 23) hx hb dX1_isKept_1 (by decide) (fun c_1 => ?_) (fun c_1 => ?_)
  · refine lv_iconst (v := 0) hx hb dX1_isKept_23 (by decide) ?_
    exact W.zret (v := 0) (ty := .boolean) hx hb hr rfl (fun t ht hW => ⟨⟨0, (), rfl, (Or.inl rfl), kt_heap ht hP⟩, hS.F ht⟩) hS.2.2 dX1_isKept_24
  · refine lv_iload_n hx hb dX1_isKept_4 rfl (lv_at hl 1 rfl) ?_
    refine lv_aload_n hx hb dX1_isKept_5 rfl (lv_at hl 0 rfl) ?_
    refine va_get (D := (dC, dI)) (ci := 1) (v := .int (v 7 1)) (C := RX1) (T := TX1) (N := 2) hx hb hts (fun w h => List.mem_cons_of_mem _ (inWX1 w h)) hown hK hP 7 at_7 rfl 1 (by decide) (hts _ (List.mem_cons_of_mem _ kw_t1_62)) (fun _ h9 => h9) rfl dX1_isKept_6 ?_
    refine lv_topi (fun t_2 et_2 => ?_)
    refine lv_icmp_ge (tgt := 23) hx hb dX1_isKept_9 (by decide) (fun c_3 => ?_) (fun c_3 => ?_)
    · refine lv_iconst (v := 0) hx hb dX1_isKept_23 (by decide) ?_
      exact W.zret (v := 0) (ty := .boolean) hx hb hr rfl (fun t ht hW => ⟨⟨0, (), rfl, (Or.inl rfl), kt_heap ht hP⟩, hS.F ht⟩) hS.2.2 dX1_isKept_24
    · refine lv_iload_n hx hb dX1_isKept_12 rfl (lv_at hl 1 rfl) ?_
      refine lv_sipush (v := 500) hx hb dX1_isKept_13 (by decide) ?_
      refine lv_icmp_ge (tgt := 23) hx hb dX1_isKept_16 (by decide) (fun c_4 => ?_) (fun c_4 => ?_)
      · refine lv_iconst (v := 0) hx hb dX1_isKept_23 (by decide) ?_
        exact W.zret (v := 0) (ty := .boolean) hx hb hr rfl (fun t ht hW => ⟨⟨0, (), rfl, (Or.inl rfl), kt_heap ht hP⟩, hS.F ht⟩) hS.2.2 dX1_isKept_24
      · refine lv_iconst (v := 1) hx hb dX1_isKept_19 (by decide) ?_
        refine lv_goto (tgt := 24) hx hb dX1_isKept_20 (by decide) ?_
        exact W.zret (v := 1) (ty := .boolean) hx hb hr rfl (fun t ht hW => ⟨⟨1, (), rfl, (Or.inr ⟨rfl, by have z0 := c_1; have z1 := c_3; have z2 := c_4; simp only [Int32.lt_iff_toInt_lt, Int32.le_iff_toInt_le, L0, L500] at z0 z1 z2 ⊢; omega, by have z0 := c_1; have z1 := c_3; have z2 := c_4; simp only [Int32.lt_iff_toInt_lt, Int32.le_iff_toInt_le, L0, L500] at z0 z1 z2 ⊢; omega⟩), kt_heap ht hP⟩, hS.F ht⟩) hS.2.2 dX1_isKept_24

set_option maxHeartbeats 4000000 in
set_option maxRecDepth 100000 in
theorem c_X0_goesOn (l : Launch) (dC : Nat → ClassId) (dI : Nat → Nat → Nat) (cI cZ cS cC cJ : ClassId) (a : Nat → Nat) (v : Nat → Nat → Int32) (sz : Nat) (i : Nat) (hi : i < 12) (hD : mDD a) (hI : kI v v) : Met l yX0_goesOn (Cond.code yX0_goesOn cX0_goesOn 1 (some .boolean) :: WW) ({ frames := 0, cells := 0, slots := 0, locals := 0 }) (va_Pc [.ref (a (9 + 3 * i))] (fun U => U.heap.size = sz ∧ va_P (dC, dI) vwCl (mW cI cZ cS cC cJ a v) U.heap ∧ va_K (dC, dI) vwCl [(cI, .int), (cZ, .boolean), (cS, .object RX3), (cC, .object RX0), (cJ, .long)] U ∧ mN U)) (va_Qi (fun (r : Int32) (_u : Unit) => (r = 0 ∨ r = 1)) (fun (_ : Unit) (t : State) => va_P (dC, dI) vwCl (mW cI cZ cS cC cJ a v) t.heap) (mA a sz)) 0 0 (mA a sz) := by
  refine Met.ofW (cc := cX0_goesOn) (maxL := 1) (ret := (some .boolean)) (by decide) rfl ?_
  intro p e s m args below meth c s₁ B hml hv
  obtain ⟨rfl, hsz, hP, hK, hN⟩ := hv
  have hx := B.exec
  have hb := B.bytes
  have hr := B.returns
  have hts := atoms_spec (ws := Cond.code yX0_goesOn cX0_goesOn 1 (some .boolean) :: WW) B.pre
  have hown : s.vm.findClass RX0 = some m.cls := findClass_of_methodNamed B.named
  have hlocks := B.notSynchronized
  subst hsz
  have hAc : ∀ c, c < 81 → mA a s.heap.size (a c) := fun c h => Or.inl ⟨c, h, rfl⟩
  have hA : ∀ q : Nat, s.heap.size ≤ q → mA a s.heap.size q := fun q h => Or.inr h
  generalize hAe : mA a s.heap.size = A at hAc hA ⊢
  have hS : va_S A s.heap s.heap [] := va_S.rf
  have hl := lv_entry ([.ref (a (9 + 3 * i))]) (n := 1) (Nat.le_of_ble_eq_true rfl)
  rw [lg_entry_eq]
  generalize (lg_sl ([.ref (a (9 + 3 * i))]) ++ List.replicate (1 - (lg_sl ([.ref (a (9 + 3 * i))])).length) Slot.unset).toArray = ls at hl ⊢
  have hl : lv_has ls 1 [(0, .ref (a (9 + 3 * i)))] := hl
  refine lv_aload_n hx hb dX0_goesOn_0 rfl (lv_at hl 0 rfl) ?_
  refine va_get (D := (dC, dI)) (ci := 0) (v := .int (v (9 + 3 * i) 4)) (C := RX0) (T := TX0) (N := 9) hx hb hts (fun w h => List.mem_cons_of_mem _ (inWX0 w h)) hown hK hP (9 + 3 * i) (at_C hi) rfl 4 (by decide) (hts _ (List.mem_cons_of_mem _ kw_t1_130)) (fun _ h9 => h9) rfl dX0_goesOn_1 ?_
  refine lv_topi (fun t_1 et_1 => ?_)
  refine lv_if_eq (tgt := 11) hx hb dX0_goesOn_4 (by decide) (fun c_2 => ?_) (fun c_2 => ?_)
  · refine lv_iconst (v := 0) hx hb dX0_goesOn_11 (by decide) ?_
    exact W.zret (v := 0) (ty := .boolean) hx hb hr rfl (fun t ht hW => ⟨⟨0, (), rfl, (Or.inl rfl), kt_heap ht hP⟩, hS.F ht⟩) hS.2.2 dX0_goesOn_12
  · refine lv_iconst (v := 1) hx hb dX0_goesOn_7 (by decide) ?_
    refine lv_goto (tgt := 12) hx hb dX0_goesOn_8 (by decide) ?_
    exact W.zret (v := 1) (ty := .boolean) hx hb hr rfl (fun t ht hW => ⟨⟨1, (), rfl, (Or.inr rfl), kt_heap ht hP⟩, hS.F ht⟩) hS.2.2 dX0_goesOn_12

set_option maxHeartbeats 4000000 in
set_option maxRecDepth 100000 in
theorem c_X3_endOfLife (l : Launch) (dC : Nat → ClassId) (dI : Nat → Nat → Nat) (cI cZ cS cC cJ : ClassId) (a : Nat → Nat) (v : Nat → Nat → Int32) (sz : Nat) (i : Nat) (hi : i < 12) (hD : mDD a) (hI : kI v v) : Met l yX3_endOfLife (Cond.code yX3_endOfLife cX3_endOfLife 1 (some .int) :: WW) ({ frames := 0, cells := 0, slots := 0, locals := 0 }) (va_Pc [.ref (a (10 + 3 * i))] (fun U => U.heap.size = sz ∧ va_P (dC, dI) vwCl (mW cI cZ cS cC cJ a v) U.heap ∧ va_K (dC, dI) vwCl [(cI, .int), (cZ, .boolean), (cS, .object RX3), (cC, .object RX0), (cJ, .long)] U ∧ mN U)) (va_Qi (fun (r : Int32) (_u : Unit) => True) (fun (_ : Unit) (t : State) => va_P (dC, dI) vwCl (mW cI cZ cS cC cJ a v) t.heap) (mA a sz)) 0 0 (mA a sz) := by
  refine Met.ofW (cc := cX3_endOfLife) (maxL := 1) (ret := (some .int)) (by decide) rfl ?_
  intro p e s m args below meth c s₁ B hml hv
  obtain ⟨rfl, hsz, hP, hK, hN⟩ := hv
  have hx := B.exec
  have hb := B.bytes
  have hr := B.returns
  have hts := atoms_spec (ws := Cond.code yX3_endOfLife cX3_endOfLife 1 (some .int) :: WW) B.pre
  have hown : s.vm.findClass RX3 = some m.cls := findClass_of_methodNamed B.named
  have hlocks := B.notSynchronized
  subst hsz
  have hAc : ∀ c, c < 81 → mA a s.heap.size (a c) := fun c h => Or.inl ⟨c, h, rfl⟩
  have hA : ∀ q : Nat, s.heap.size ≤ q → mA a s.heap.size q := fun q h => Or.inr h
  generalize hAe : mA a s.heap.size = A at hAc hA ⊢
  have hS : va_S A s.heap s.heap [] := va_S.rf
  have hl := lv_entry ([.ref (a (10 + 3 * i))]) (n := 1) (Nat.le_of_ble_eq_true rfl)
  rw [lg_entry_eq]
  generalize (lg_sl ([.ref (a (10 + 3 * i))]) ++ List.replicate (1 - (lg_sl ([.ref (a (10 + 3 * i))])).length) Slot.unset).toArray = ls at hl ⊢
  have hl : lv_has ls 1 [(0, .ref (a (10 + 3 * i)))] := hl
  refine lv_aload_n hx hb dX3_endOfLife_0 rfl (lv_at hl 0 rfl) ?_
  refine va_get (D := (dC, dI)) (ci := 3) (v := .int (v (10 + 3 * i) 5)) (C := RX3) (T := TX3) (N := 10) hx hb hts (fun w h => List.mem_cons_of_mem _ (inWX3 w h)) hown hK hP (10 + 3 * i) (at_S hi) rfl 5 (by decide) (hts _ (List.mem_cons_of_mem _ kw_t1_94)) (fun _ h9 => h9) rfl dX3_endOfLife_1 ?_
  refine lv_topi (fun t_1 et_1 => ?_)
  refine lv_aload_n hx hb dX3_endOfLife_4 rfl (lv_at hl 0 rfl) ?_
  refine va_get (D := (dC, dI)) (ci := 3) (v := .int (v (10 + 3 * i) 3)) (C := RX3) (T := TX3) (N := 10) hx hb hts (fun w h => List.mem_cons_of_mem _ (inWX3 w h)) hown hK hP (10 + 3 * i) (at_S hi) rfl 3 (by decide) (hts _ (List.mem_cons_of_mem _ kw_t1_89)) (fun _ h9 => h9) rfl dX3_endOfLife_5 ?_
  refine lv_topi (fun t_2 et_2 => ?_)
  refine lv_iadd hx hb dX3_endOfLife_8 ?_
  refine lv_topi (fun t_3 et_3 => ?_)
  exact W.iret (v := t_3) hx hb hr (fun t ht hW => ⟨⟨t_3, (), rfl, trivial, kt_heap ht hP⟩, hS.F ht⟩) hS.2.2 dX3_endOfLife_9

set_option maxHeartbeats 4000000 in
set_option maxRecDepth 100000 in
theorem c_X3_oldestGoodMade (l : Launch) (dC : Nat → ClassId) (dI : Nat → Nat → Nat) (cI cZ cS cC cJ : ClassId) (a : Nat → Nat) (v : Nat → Nat → Int32) (sz : Nat) (i : Nat) (hi : i < 12) (hD : mDD a) (hI : kI v v) : Met l yX3_oldestGoodMade (Cond.code yX3_oldestGoodMade cX3_oldestGoodMade 1 (some .int) :: WW) ({ frames := 0, cells := 0, slots := 0, locals := 0 }) (va_Pc [.ref (a (10 + 3 * i))] (fun U => U.heap.size = sz ∧ va_P (dC, dI) vwCl (mW cI cZ cS cC cJ a v) U.heap ∧ va_K (dC, dI) vwCl [(cI, .int), (cZ, .boolean), (cS, .object RX3), (cC, .object RX0), (cJ, .long)] U ∧ mN U)) (va_Qi (fun (r : Int32) (_u : Unit) => True) (fun (_ : Unit) (t : State) => va_P (dC, dI) vwCl (mW cI cZ cS cC cJ a v) t.heap) (mA a sz)) 0 0 (mA a sz) := by
  refine Met.ofW (cc := cX3_oldestGoodMade) (maxL := 1) (ret := (some .int)) (by decide) rfl ?_
  intro p e s m args below meth c s₁ B hml hv
  obtain ⟨rfl, hsz, hP, hK, hN⟩ := hv
  have hx := B.exec
  have hb := B.bytes
  have hr := B.returns
  have hts := atoms_spec (ws := Cond.code yX3_oldestGoodMade cX3_oldestGoodMade 1 (some .int) :: WW) B.pre
  have hown : s.vm.findClass RX3 = some m.cls := findClass_of_methodNamed B.named
  have hlocks := B.notSynchronized
  subst hsz
  have hAc : ∀ c, c < 81 → mA a s.heap.size (a c) := fun c h => Or.inl ⟨c, h, rfl⟩
  have hA : ∀ q : Nat, s.heap.size ≤ q → mA a s.heap.size q := fun q h => Or.inr h
  generalize hAe : mA a s.heap.size = A at hAc hA ⊢
  have hS : va_S A s.heap s.heap [] := va_S.rf
  have hl := lv_entry ([.ref (a (10 + 3 * i))]) (n := 1) (Nat.le_of_ble_eq_true rfl)
  rw [lg_entry_eq]
  generalize (lg_sl ([.ref (a (10 + 3 * i))]) ++ List.replicate (1 - (lg_sl ([.ref (a (10 + 3 * i))])).length) Slot.unset).toArray = ls at hl ⊢
  have hl : lv_has ls 1 [(0, .ref (a (10 + 3 * i)))] := hl
  refine lv_aload_n hx hb dX3_oldestGoodMade_0 rfl (lv_at hl 0 rfl) ?_
  refine va_get (D := (dC, dI)) (ci := 3) (v := .int (v (10 + 3 * i) 9)) (C := RX3) (T := TX3) (N := 10) hx hb hts (fun w h => List.mem_cons_of_mem _ (inWX3 w h)) hown hK hP (10 + 3 * i) (at_S hi) rfl 9 (by decide) (hts _ (List.mem_cons_of_mem _ kw_t1_101)) (fun _ h9 => h9) rfl dX3_oldestGoodMade_1 ?_
  refine lv_topi (fun t_1 et_1 => ?_)
  refine lv_if_eq (tgt := 14) hx hb dX3_oldestGoodMade_4 (by decide) (fun c_2 => ?_) (fun c_2 => ?_)
  · refine lv_aload_n hx hb dX3_oldestGoodMade_14 rfl (lv_at hl 0 rfl) ?_
    refine va_get (D := (dC, dI)) (ci := 3) (v := .int (v (10 + 3 * i) 5)) (C := RX3) (T := TX3) (N := 10) hx hb hts (fun w h => List.mem_cons_of_mem _ (inWX3 w h)) hown hK hP (10 + 3 * i) (at_S hi) rfl 5 (by decide) (hts _ (List.mem_cons_of_mem _ kw_t1_94)) (fun _ h9 => h9) rfl dX3_oldestGoodMade_15 ?_
    refine lv_topi (fun t_3 et_3 => ?_)
    exact W.iret (v := t_3) hx hb hr (fun t ht hW => ⟨⟨t_3, (), rfl, trivial, kt_heap ht hP⟩, hS.F ht⟩) hS.2.2 dX3_oldestGoodMade_18
  · refine lv_aload_n hx hb dX3_oldestGoodMade_7 rfl (lv_at hl 0 rfl) ?_
    refine va_get (D := (dC, dI)) (ci := 3) (v := .int (v (10 + 3 * i) 6)) (C := RX3) (T := TX3) (N := 10) hx hb hts (fun w h => List.mem_cons_of_mem _ (inWX3 w h)) hown hK hP (10 + 3 * i) (at_S hi) rfl 6 (by decide) (hts _ (List.mem_cons_of_mem _ kw_t1_96)) (fun _ h9 => h9) rfl dX3_oldestGoodMade_8 ?_
    refine lv_topi (fun t_4 et_4 => ?_)
    refine lv_goto (tgt := 18) hx hb dX3_oldestGoodMade_11 (by decide) ?_
    exact W.iret (v := t_4) hx hb hr (fun t ht hW => ⟨⟨t_4, (), rfl, trivial, kt_heap ht hP⟩, hS.F ht⟩) hS.2.2 dX3_oldestGoodMade_18

set_option maxHeartbeats 4000000 in
set_option maxRecDepth 100000 in
theorem c_X3_lockedOut (l : Launch) (dC : Nat → ClassId) (dI : Nat → Nat → Nat) (cI cZ cS cC cJ : ClassId) (a : Nat → Nat) (v : Nat → Nat → Int32) (sz : Nat) (i : Nat) (hi : i < 12) (hD : mDD a) (hI : kI v v) : Met l yX3_lockedOut (Cond.code yX3_lockedOut cX3_lockedOut 3 (some .int) :: WW) ({ frames := 0, cells := 0, slots := 0, locals := 0 }) (va_Pc [.ref (a (10 + 3 * i))] (fun U => U.heap.size = sz ∧ va_P (dC, dI) vwCl (mW cI cZ cS cC cJ a v) U.heap ∧ va_K (dC, dI) vwCl [(cI, .int), (cZ, .boolean), (cS, .object RX3), (cC, .object RX0), (cJ, .long)] U ∧ mN U)) (va_Qi (fun (r : Int32) (_u : Unit) => True) (fun (_ : Unit) (t : State) => va_P (dC, dI) vwCl (mW cI cZ cS cC cJ a v) t.heap) (mA a sz)) 0 0 (mA a sz) := by
  refine Met.ofW (cc := cX3_lockedOut) (maxL := 3) (ret := (some .int)) (by decide) rfl ?_
  intro p e s m args below meth c s₁ B hml hv
  obtain ⟨rfl, hsz, hP, hK, hN⟩ := hv
  have hx := B.exec
  have hb := B.bytes
  have hr := B.returns
  have hts := atoms_spec (ws := Cond.code yX3_lockedOut cX3_lockedOut 3 (some .int) :: WW) B.pre
  have hown : s.vm.findClass RX3 = some m.cls := findClass_of_methodNamed B.named
  have hlocks := B.notSynchronized
  subst hsz
  have hAc : ∀ c, c < 81 → mA a s.heap.size (a c) := fun c h => Or.inl ⟨c, h, rfl⟩
  have hA : ∀ q : Nat, s.heap.size ≤ q → mA a s.heap.size q := fun q h => Or.inr h
  generalize hAe : mA a s.heap.size = A at hAc hA ⊢
  have hS : va_S A s.heap s.heap [] := va_S.rf
  have hl := lv_entry ([.ref (a (10 + 3 * i))]) (n := 3) (Nat.le_of_ble_eq_true rfl)
  rw [lg_entry_eq]
  generalize (lg_sl ([.ref (a (10 + 3 * i))]) ++ List.replicate (3 - (lg_sl ([.ref (a (10 + 3 * i))])).length) Slot.unset).toArray = ls at hl ⊢
  have hl : lv_has ls 3 [(0, .ref (a (10 + 3 * i)))] := hl
  refine lv_aload_n hx hb dX3_lockedOut_0 rfl (lv_at hl 0 rfl) ?_
  refine va_get (D := (dC, dI)) (ci := 3) (v := .int (v (10 + 3 * i) 8)) (C := RX3) (T := TX3) (N := 10) hx hb hts (fun w h => List.mem_cons_of_mem _ (inWX3 w h)) hown hK hP (10 + 3 * i) (at_S hi) rfl 8 (by decide) (hts _ (List.mem_cons_of_mem _ kw_t1_99)) (fun _ h9 => h9) rfl dX3_lockedOut_1 ?_
  refine lv_topi (fun t_1 et_1 => ?_)
  refine lv_aload_n hx hb dX3_lockedOut_4 rfl (lv_at hl 0 rfl) ?_
  refine va_get (D := (dC, dI)) (ci := 3) (v := .int (v (10 + 3 * i) 2)) (C := RX3) (T := TX3) (N := 10) hx hb hts (fun w h => List.mem_cons_of_mem _ (inWX3 w h)) hown hK hP (10 + 3 * i) (at_S hi) rfl 2 (by decide) (hts _ (List.mem_cons_of_mem _ kw_t1_86)) (fun _ h9 => h9) rfl dX3_lockedOut_5 ?_
  refine lv_topi (fun t_2 et_2 => ?_)
  refine lv_icmp_ne (tgt := 15) hx hb dX3_lockedOut_8 (by decide) (fun c_3 => ?_) (fun c_3 => ?_)
  · refine lv_aload_n hx hb dX3_lockedOut_15 rfl (lv_at hl 0 rfl) ?_
    refine va_get (D := (dC, dI)) (ci := 3) (v := .int (v (10 + 3 * i) 7)) (C := RX3) (T := TX3) (N := 10) hx hb hts (fun w h => List.mem_cons_of_mem _ (inWX3 w h)) hown hK hP (10 + 3 * i) (at_S hi) rfl 7 (by decide) (hts _ (List.mem_cons_of_mem _ kw_t1_97)) (fun _ h9 => h9) rfl dX3_lockedOut_16 ?_
    refine lv_topi (fun t_4 et_4 => ?_)
    refine lv_istore_n (lv' := [(1, .int t_4), (0, .ref (a (10 + 3 * i)))]) hx hb dX3_lockedOut_19 rfl hl (by decide) rfl (fun ls hl => ?_)
    refine lv_aload_n hx hb dX3_lockedOut_20 rfl (lv_at hl 1 rfl) ?_
    refine va_get (D := (dC, dI)) (ci := 3) (v := .int (v (10 + 3 * i) 9)) (C := RX3) (T := TX3) (N := 10) hx hb hts (fun w h => List.mem_cons_of_mem _ (inWX3 w h)) hown hK hP (10 + 3 * i) (at_S hi) rfl 9 (by decide) (hts _ (List.mem_cons_of_mem _ kw_t1_101)) (fun _ h9 => h9) rfl dX3_lockedOut_21 ?_
    refine lv_topi (fun t_5 et_5 => ?_)
    refine lv_aload_n hx hb dX3_lockedOut_24 rfl (lv_at hl 1 rfl) ?_
    refine va_get (D := (dC, dI)) (ci := 3) (v := .int (v (10 + 3 * i) 2)) (C := RX3) (T := TX3) (N := 10) hx hb hts (fun w h => List.mem_cons_of_mem _ (inWX3 w h)) hown hK hP (10 + 3 * i) (at_S hi) rfl 2 (by decide) (hts _ (List.mem_cons_of_mem _ kw_t1_86)) (fun _ h9 => h9) rfl dX3_lockedOut_25 ?_
    refine lv_topi (fun t_6 et_6 => ?_)
    obtain rfl : t_2 = t_6 := et_2.trans et_6.symm
    refine lv_icmp_ne (tgt := 35) hx hb dX3_lockedOut_28 (by decide) (fun c_7 => ?_) (fun c_7 => ?_)
    · refine lv_aload_n hx hb dX3_lockedOut_35 rfl (lv_at hl 1 rfl) ?_
      refine va_get (D := (dC, dI)) (ci := 3) (v := .int (v (10 + 3 * i) 1)) (C := RX3) (T := TX3) (N := 10) hx hb hts (fun w h => List.mem_cons_of_mem _ (inWX3 w h)) hown hK hP (10 + 3 * i) (at_S hi) rfl 1 (by decide) (hts _ (List.mem_cons_of_mem _ kw_t1_83)) (fun _ h9 => h9) rfl dX3_lockedOut_36 ?_
      refine lv_topi (fun t_8 et_8 => ?_)
      refine lv_aload_n hx hb dX3_lockedOut_39 rfl (lv_at hl 1 rfl) ?_
      refine va_get (D := (dC, dI)) (ci := 3) (v := .int (v (10 + 3 * i) 7)) (C := RX3) (T := TX3) (N := 10) hx hb hts (fun w h => List.mem_cons_of_mem _ (inWX3 w h)) hown hK hP (10 + 3 * i) (at_S hi) rfl 7 (by decide) (hts _ (List.mem_cons_of_mem _ kw_t1_97)) (fun _ h9 => h9) rfl dX3_lockedOut_40 ?_
      refine lv_topi (fun t_9 et_9 => ?_)
      obtain rfl : t_4 = t_9 := et_4.trans et_9.symm
      refine lv_iconst (v := (-1)) hx hb dX3_lockedOut_43 (by decide) ?_
      refine lv_ixor hx hb dX3_lockedOut_44 ?_
      refine lv_topi (fun t_10 et_10 => ?_)
      refine lv_iand hx hb dX3_lockedOut_45 ?_
      refine lv_topi (fun t_11 et_11 => ?_)
      refine lv_istore_n (lv' := [(2, .int t_11), (1, .int t_4), (0, .ref (a (10 + 3 * i)))]) hx hb dX3_lockedOut_46 rfl hl (by decide) rfl (fun ls hl => ?_)
      refine lv_iload_n hx hb dX3_lockedOut_47 rfl (lv_at hl 1 rfl) ?_
      refine lv_iload_n hx hb dX3_lockedOut_48 rfl (lv_at hl 0 rfl) ?_
      refine lv_ior hx hb dX3_lockedOut_49 ?_
      refine lv_topi (fun t_12 et_12 => ?_)
      exact W.iret (v := t_12) hx hb hr (fun t ht hW => ⟨⟨t_12, (), rfl, trivial, kt_heap ht hP⟩, hS.F ht⟩) hS.2.2 dX3_lockedOut_50
    · refine lv_iconst (v := 0) hx hb dX3_lockedOut_31 (by decide) ?_
      refine lv_goto (tgt := 46) hx hb dX3_lockedOut_32 (by decide) ?_
      refine lv_istore_n (lv' := [(2, .int 0), (1, .int t_4), (0, .ref (a (10 + 3 * i)))]) hx hb dX3_lockedOut_46 rfl hl (by decide) rfl (fun ls hl => ?_)
      refine lv_iload_n hx hb dX3_lockedOut_47 rfl (lv_at hl 1 rfl) ?_
      refine lv_iload_n hx hb dX3_lockedOut_48 rfl (lv_at hl 0 rfl) ?_
      refine lv_ior hx hb dX3_lockedOut_49 ?_
      refine lv_topi (fun t_13 et_13 => ?_)
      exact W.iret (v := t_13) hx hb hr (fun t ht hW => ⟨⟨t_13, (), rfl, trivial, kt_heap ht hP⟩, hS.F ht⟩) hS.2.2 dX3_lockedOut_50
  · refine lv_iconst (v := 0) hx hb dX3_lockedOut_11 (by decide) ?_
    refine lv_goto (tgt := 19) hx hb dX3_lockedOut_12 (by decide) ?_
    refine lv_istore_n (lv' := [(1, .int 0), (0, .ref (a (10 + 3 * i)))]) hx hb dX3_lockedOut_19 rfl hl (by decide) rfl (fun ls hl => ?_)
    refine lv_aload_n hx hb dX3_lockedOut_20 rfl (lv_at hl 1 rfl) ?_
    refine va_get (D := (dC, dI)) (ci := 3) (v := .int (v (10 + 3 * i) 9)) (C := RX3) (T := TX3) (N := 10) hx hb hts (fun w h => List.mem_cons_of_mem _ (inWX3 w h)) hown hK hP (10 + 3 * i) (at_S hi) rfl 9 (by decide) (hts _ (List.mem_cons_of_mem _ kw_t1_101)) (fun _ h9 => h9) rfl dX3_lockedOut_21 ?_
    refine lv_topi (fun t_14 et_14 => ?_)
    refine lv_aload_n hx hb dX3_lockedOut_24 rfl (lv_at hl 1 rfl) ?_
    refine va_get (D := (dC, dI)) (ci := 3) (v := .int (v (10 + 3 * i) 2)) (C := RX3) (T := TX3) (N := 10) hx hb hts (fun w h => List.mem_cons_of_mem _ (inWX3 w h)) hown hK hP (10 + 3 * i) (at_S hi) rfl 2 (by decide) (hts _ (List.mem_cons_of_mem _ kw_t1_86)) (fun _ h9 => h9) rfl dX3_lockedOut_25 ?_
    refine lv_topi (fun t_15 et_15 => ?_)
    obtain rfl : t_2 = t_15 := et_2.trans et_15.symm
    refine lv_icmp_ne (tgt := 35) hx hb dX3_lockedOut_28 (by decide) (fun c_16 => ?_) (fun c_16 => ?_)
    · refine lv_aload_n hx hb dX3_lockedOut_35 rfl (lv_at hl 1 rfl) ?_
      refine va_get (D := (dC, dI)) (ci := 3) (v := .int (v (10 + 3 * i) 1)) (C := RX3) (T := TX3) (N := 10) hx hb hts (fun w h => List.mem_cons_of_mem _ (inWX3 w h)) hown hK hP (10 + 3 * i) (at_S hi) rfl 1 (by decide) (hts _ (List.mem_cons_of_mem _ kw_t1_83)) (fun _ h9 => h9) rfl dX3_lockedOut_36 ?_
      refine lv_topi (fun t_17 et_17 => ?_)
      refine lv_aload_n hx hb dX3_lockedOut_39 rfl (lv_at hl 1 rfl) ?_
      refine va_get (D := (dC, dI)) (ci := 3) (v := .int (v (10 + 3 * i) 7)) (C := RX3) (T := TX3) (N := 10) hx hb hts (fun w h => List.mem_cons_of_mem _ (inWX3 w h)) hown hK hP (10 + 3 * i) (at_S hi) rfl 7 (by decide) (hts _ (List.mem_cons_of_mem _ kw_t1_97)) (fun _ h9 => h9) rfl dX3_lockedOut_40 ?_
      refine lv_topi (fun t_18 et_18 => ?_)
      refine lv_iconst (v := (-1)) hx hb dX3_lockedOut_43 (by decide) ?_
      refine lv_ixor hx hb dX3_lockedOut_44 ?_
      refine lv_topi (fun t_19 et_19 => ?_)
      refine lv_iand hx hb dX3_lockedOut_45 ?_
      refine lv_topi (fun t_20 et_20 => ?_)
      refine lv_istore_n (lv' := [(2, .int t_20), (1, .int 0), (0, .ref (a (10 + 3 * i)))]) hx hb dX3_lockedOut_46 rfl hl (by decide) rfl (fun ls hl => ?_)
      refine lv_iload_n hx hb dX3_lockedOut_47 rfl (lv_at hl 1 rfl) ?_
      refine lv_iload_n hx hb dX3_lockedOut_48 rfl (lv_at hl 0 rfl) ?_
      refine lv_ior hx hb dX3_lockedOut_49 ?_
      refine lv_topi (fun t_21 et_21 => ?_)
      exact W.iret (v := t_21) hx hb hr (fun t ht hW => ⟨⟨t_21, (), rfl, trivial, kt_heap ht hP⟩, hS.F ht⟩) hS.2.2 dX3_lockedOut_50
    · refine lv_iconst (v := 0) hx hb dX3_lockedOut_31 (by decide) ?_
      refine lv_goto (tgt := 46) hx hb dX3_lockedOut_32 (by decide) ?_
      refine lv_istore_n (lv' := [(2, .int 0), (1, .int 0), (0, .ref (a (10 + 3 * i)))]) hx hb dX3_lockedOut_46 rfl hl (by decide) rfl (fun ls hl => ?_)
      refine lv_iload_n hx hb dX3_lockedOut_47 rfl (lv_at hl 1 rfl) ?_
      refine lv_iload_n hx hb dX3_lockedOut_48 rfl (lv_at hl 0 rfl) ?_
      refine lv_ior hx hb dX3_lockedOut_49 ?_
      refine lv_topi (fun t_22 et_22 => ?_)
      obtain rfl : t_22 = 0 := et_22.trans (by decide)
      exact W.iret (v := 0) hx hb hr (fun t ht hW => ⟨⟨0, (), rfl, trivial, kt_heap ht hP⟩, hS.F ht⟩) hS.2.2 dX3_lockedOut_50

set_option maxHeartbeats 4000000 in
set_option maxRecDepth 100000 in
theorem c_X3_versionOf (l : Launch) (dC : Nat → ClassId) (dI : Nat → Nat → Nat) (cI cZ cS cC cJ : ClassId) (a : Nat → Nat) (v : Nat → Nat → Int32) (sz : Nat) (i : Nat) (hi : i < 12) (p0 : Int32) (hD : mDD a) (hI : kI v v) : Met l yX3_versionOf (Cond.code yX3_versionOf cX3_versionOf 2 (some .int) :: WW) ({ frames := 1, cells := 0, slots := 0, locals := 30 }) (va_Pc [.ref (a (10 + 3 * i)), .int p0] (fun U => U.heap.size = sz ∧ va_P (dC, dI) vwCl (mW cI cZ cS cC cJ a v) U.heap ∧ va_K (dC, dI) vwCl [(cI, .int), (cZ, .boolean), (cS, .object RX3), (cC, .object RX0), (cJ, .long)] U ∧ mN U)) (va_Qi (fun (r : Int32) (_u : Unit) => True) (fun (_ : Unit) (t : State) => va_P (dC, dI) vwCl (mW cI cZ cS cC cJ a v) t.heap) (mA a sz)) 0 0 (mA a sz) := by
  refine Met.ofW (cc := cX3_versionOf) (maxL := 2) (ret := (some .int)) (by decide) rfl ?_
  intro p e s m args below meth c s₁ B hml hv
  obtain ⟨rfl, hsz, hP, hK, hN⟩ := hv
  have hx := B.exec
  have hb := B.bytes
  have hr := B.returns
  have hts := atoms_spec (ws := Cond.code yX3_versionOf cX3_versionOf 2 (some .int) :: WW) B.pre
  have hown : s.vm.findClass RX3 = some m.cls := findClass_of_methodNamed B.named
  have hlocks := B.notSynchronized
  subst hsz
  have hAc : ∀ c, c < 81 → mA a s.heap.size (a c) := fun c h => Or.inl ⟨c, h, rfl⟩
  have hA : ∀ q : Nat, s.heap.size ≤ q → mA a s.heap.size q := fun q h => Or.inr h
  generalize hAe : mA a s.heap.size = A at hAc hA ⊢
  have hS : va_S A s.heap s.heap [] := va_S.rf
  have hl := lv_entry ([.ref (a (10 + 3 * i)), .int p0]) (n := 2) (Nat.le_of_ble_eq_true rfl)
  rw [lg_entry_eq]
  generalize (lg_sl ([.ref (a (10 + 3 * i)), .int p0]) ++ List.replicate (2 - (lg_sl ([.ref (a (10 + 3 * i)), .int p0])).length) Slot.unset).toArray = ls at hl ⊢
  have hl : lv_has ls 2 [(0, .ref (a (10 + 3 * i))), (1, .int p0)] := hl
  refine lv_aload_n hx hb dX3_versionOf_0 rfl (lv_at hl 0 rfl) ?_
  refine va_get (D := (dC, dI)) (ci := 3) (v := .int (v (10 + 3 * i) 7)) (C := RX3) (T := TX3) (N := 10) hx hb hts (fun w h => List.mem_cons_of_mem _ (inWX3 w h)) hown hK hP (10 + 3 * i) (at_S hi) rfl 7 (by decide) (hts _ (List.mem_cons_of_mem _ kw_t1_97)) (fun _ h9 => h9) rfl dX3_versionOf_1 ?_
  refine lv_topi (fun t_1 et_1 => ?_)
  refine lv_iload_n hx hb dX3_versionOf_4 rfl (lv_at hl 1 rfl) ?_
  have hFc := mA_free (a := a) hS hA hAc
  refine va_calli (va_runSN (As := [.int t_1, .int p0]) (rest := []) ⟨hx, hb, hml, hown, hts⟩ (c_X5_isIn l dC dI cI cZ cS cC cJ a v s.heap.size t_1 p0 hD hI.self) ⟨va_cnB 2 hts (gI (fun w h => List.mem_cons_of_mem _ h) kw_t1_213) rfl rfl rfl hN.1 (hts _ (List.mem_cons_of_mem _ kw_t1_1)) (by decide +kernel) ⟨Nat.le_of_ble_eq_true rfl, Nat.le_of_ble_eq_true rfl⟩, (hts _ (List.mem_cons_of_mem _ kw_t1_212)), trivial⟩ ⟨fun av U g mk q => by obtain ⟨q0, q1, qP, qK, qN⟩ := q; exact ⟨q0, q1, qP, va_K.moved (u := U) (U := U.calling g mk av) (Vm.Alike.refl U.vm) qK, mN_same qN⟩, fun U hU hW => ⟨rfl, by rw [hU], by rw [hU]; exact hP, va_K.moved hW.alike hK, mN_warm hW hN⟩⟩ rfl rfl hl.1 rfl (lv_room (Nat.le_of_ble_eq_true rfl)) dX3_versionOf_5 ⟨Nat.le_of_ble_eq_true rfl, Nat.le_of_ble_eq_true rfl⟩) hS (fun q _ h => hFc q h) hFc (fun r_2 _ t H locs ht hvm hw_2 hP _ _ hS => ?_)
  have hP := kt_heap2 ht hP
  clear ht hFc
  have hP : va_P (dC, dI) vwCl (mW cI cZ cS cC cJ a v) H := hP
  refine lv_if_eq (tgt := 18) hx hb dX3_versionOf_8 (by decide) (fun c_3 => ?_) (fun c_3 => ?_)
  · refine lv_aload_n hx hb dX3_versionOf_18 rfl (lv_at hl 0 rfl) ?_
    refine va_get (D := (dC, dI)) (ci := 3) (v := .int (v (10 + 3 * i) 4)) (C := RX3) (T := TX3) (N := 10) hx hb hts (fun w h => List.mem_cons_of_mem _ (inWX3 w h)) hown hK hP (10 + 3 * i) (at_S hi) rfl 4 (by decide) (hts _ (List.mem_cons_of_mem _ kw_t1_91)) (fun _ h9 => h9) rfl dX3_versionOf_19 ?_
    refine lv_topi (fun t_4 et_4 => ?_)
    refine lv_iconst (v := 1) hx hb dX3_versionOf_22 (by decide) ?_
    refine lv_isub hx hb dX3_versionOf_23 ?_
    refine lv_topi (fun t_5 et_5 => ?_)
    exact W.iret (v := t_5) hx hb hr (fun t ht hW => ⟨⟨t_5, (), rfl, trivial, kt_heap ht hP⟩, hS.F ht⟩) hS.2.2 dX3_versionOf_24
  · refine lv_aload_n hx hb dX3_versionOf_11 rfl (lv_at hl 0 rfl) ?_
    refine va_get (D := (dC, dI)) (ci := 3) (v := .int (v (10 + 3 * i) 4)) (C := RX3) (T := TX3) (N := 10) hx hb hts (fun w h => List.mem_cons_of_mem _ (inWX3 w h)) hown hK hP (10 + 3 * i) (at_S hi) rfl 4 (by decide) (hts _ (List.mem_cons_of_mem _ kw_t1_91)) (fun _ h9 => h9) rfl dX3_versionOf_12 ?_
    refine lv_topi (fun t_6 et_6 => ?_)
    refine lv_goto (tgt := 24) hx hb dX3_versionOf_15 (by decide) ?_
    exact W.iret (v := t_6) hx hb hr (fun t ht hW => ⟨⟨t_6, (), rfl, trivial, kt_heap ht hP⟩, hS.F ht⟩) hS.2.2 dX3_versionOf_24

set_option maxHeartbeats 4000000 in
set_option maxRecDepth 100000 in
theorem c_X3_isGoodAt (l : Launch) (dC : Nat → ClassId) (dI : Nat → Nat → Nat) (cI cZ cS cC cJ : ClassId) (a : Nat → Nat) (v : Nat → Nat → Int32) (sz : Nat) (i : Nat) (hi : i < 12) (p0 p1 : Int32) (hD : mDD a) (hI : kI v v) : Met l yX3_isGoodAt (Cond.code yX3_isGoodAt cX3_isGoodAt 3 (some .boolean) :: WW) ({ frames := 1, cells := 0, slots := 0, locals := 30 }) (va_Pc [.ref (a (10 + 3 * i)), .int p0, .int p1] (fun U => U.heap.size = sz ∧ va_P (dC, dI) vwCl (mW cI cZ cS cC cJ a v) U.heap ∧ va_K (dC, dI) vwCl [(cI, .int), (cZ, .boolean), (cS, .object RX3), (cC, .object RX0), (cJ, .long)] U ∧ mN U)) (va_Qi (fun (r : Int32) (_u : Unit) => (r = 0 ∨ r = 1)) (fun (_ : Unit) (t : State) => va_P (dC, dI) vwCl (mW cI cZ cS cC cJ a v) t.heap) (mA a sz)) 0 0 (mA a sz) := by
  refine Met.ofW (cc := cX3_isGoodAt) (maxL := 3) (ret := (some .boolean)) (by decide) rfl ?_
  intro p e s m args below meth c s₁ B hml hv
  obtain ⟨rfl, hsz, hP, hK, hN⟩ := hv
  have hx := B.exec
  have hb := B.bytes
  have hr := B.returns
  have hts := atoms_spec (ws := Cond.code yX3_isGoodAt cX3_isGoodAt 3 (some .boolean) :: WW) B.pre
  have hown : s.vm.findClass RX3 = some m.cls := findClass_of_methodNamed B.named
  have hlocks := B.notSynchronized
  subst hsz
  have hAc : ∀ c, c < 81 → mA a s.heap.size (a c) := fun c h => Or.inl ⟨c, h, rfl⟩
  have hA : ∀ q : Nat, s.heap.size ≤ q → mA a s.heap.size q := fun q h => Or.inr h
  generalize hAe : mA a s.heap.size = A at hAc hA ⊢
  have hS : va_S A s.heap s.heap [] := va_S.rf
  have hl := lv_entry ([.ref (a (10 + 3 * i)), .int p0, .int p1]) (n := 3) (Nat.le_of_ble_eq_true rfl)
  rw [lg_entry_eq]
  generalize (lg_sl ([.ref (a (10 + 3 * i)), .int p0, .int p1]) ++ List.replicate (3 - (lg_sl ([.ref (a (10 + 3 * i)), .int p0, .int p1])).length) Slot.unset).toArray = ls at hl ⊢
  have hl : lv_has ls 3 [(0, .ref (a (10 + 3 * i))), (1, .int p0), (2, .int p1)] := hl
  refine lv_iload_n hx hb dX3_isGoodAt_0 rfl (lv_at hl 2 rfl) ?_
  refine lv_aload_n hx hb dX3_isGoodAt_1 rfl (lv_at hl 0 rfl) ?_
  refine va_get (D := (dC, dI)) (ci := 3) (v := .int (v (10 + 3 * i) 4)) (C := RX3) (T := TX3) (N := 10) hx hb hts (fun w h => List.mem_cons_of_mem _ (inWX3 w h)) hown hK hP (10 + 3 * i) (at_S hi) rfl 4 (by decide) (hts _ (List.mem_cons_of_mem _ kw_t1_91)) (fun _ h9 => h9) rfl dX3_isGoodAt_2 ?_
  refine lv_topi (fun t_1 et_1 => ?_)
  refine lv_icmp_ne (tgt := 17) hx hb dX3_isGoodAt_5 (by decide) (fun c_2 => ?_) (fun c_2 => ?_)
  · refine lv_iload_n hx hb dX3_isGoodAt_17 rfl (lv_at hl 2 rfl) ?_
    refine lv_aload_n hx hb dX3_isGoodAt_18 rfl (lv_at hl 0 rfl) ?_
    refine va_get (D := (dC, dI)) (ci := 3) (v := .int (v (10 + 3 * i) 4)) (C := RX3) (T := TX3) (N := 10) hx hb hts (fun w h => List.mem_cons_of_mem _ (inWX3 w h)) hown hK hP (10 + 3 * i) (at_S hi) rfl 4 (by decide) (hts _ (List.mem_cons_of_mem _ kw_t1_91)) (fun _ h9 => h9) rfl dX3_isGoodAt_19 ?_
    refine lv_topi (fun t_3 et_3 => ?_)
    obtain rfl : t_1 = t_3 := et_1.trans et_3.symm
    refine lv_iconst (v := 1) hx hb dX3_isGoodAt_22 (by decide) ?_
    refine lv_isub hx hb dX3_isGoodAt_23 ?_
    refine lv_topi (fun t_4 et_4 => ?_)
    refine lv_icmp_ne (tgt := 42) hx hb dX3_isGoodAt_24 (by decide) (fun c_5 => ?_) (fun c_5 => ?_)
    · refine lv_iconst (v := 0) hx hb dX3_isGoodAt_42 (by decide) ?_
      exact W.zret (v := 0) (ty := .boolean) hx hb hr rfl (fun t ht hW => ⟨⟨0, (), rfl, (Or.inl rfl), kt_heap ht hP⟩, hS.F ht⟩) hS.2.2 dX3_isGoodAt_43
    · refine lv_aload_n hx hb dX3_isGoodAt_27 rfl (lv_at hl 0 rfl) ?_
      refine va_get (D := (dC, dI)) (ci := 3) (v := .int (v (10 + 3 * i) 9)) (C := RX3) (T := TX3) (N := 10) hx hb hts (fun w h => List.mem_cons_of_mem _ (inWX3 w h)) hown hK hP (10 + 3 * i) (at_S hi) rfl 9 (by decide) (hts _ (List.mem_cons_of_mem _ kw_t1_101)) (fun _ h9 => h9) rfl dX3_isGoodAt_28 ?_
      refine lv_topi (fun t_6 et_6 => ?_)
      refine lv_iload_n hx hb dX3_isGoodAt_31 rfl (lv_at hl 1 rfl) ?_
      have hFc := mA_free (a := a) hS hA hAc
      refine va_calli (va_runSN (As := [.int t_6, .int p0]) (rest := []) ⟨hx, hb, hml, hown, hts⟩ (c_X5_isIn l dC dI cI cZ cS cC cJ a v s.heap.size t_6 p0 hD hI.self) ⟨va_cnB 2 hts (gI (fun w h => List.mem_cons_of_mem _ h) kw_t1_213) rfl rfl rfl hN.1 (hts _ (List.mem_cons_of_mem _ kw_t1_1)) (by decide +kernel) ⟨Nat.le_of_ble_eq_true rfl, Nat.le_of_ble_eq_true rfl⟩, (hts _ (List.mem_cons_of_mem _ kw_t1_212)), trivial⟩ ⟨fun av U g mk q => by obtain ⟨q0, q1, qP, qK, qN⟩ := q; exact ⟨q0, q1, qP, va_K.moved (u := U) (U := U.calling g mk av) (Vm.Alike.refl U.vm) qK, mN_same qN⟩, fun U hU hW => ⟨rfl, by rw [hU], by rw [hU]; exact hP, va_K.moved hW.alike hK, mN_warm hW hN⟩⟩ rfl rfl hl.1 rfl (lv_room (Nat.le_of_ble_eq_true rfl)) dX3_isGoodAt_32 ⟨Nat.le_of_ble_eq_true rfl, Nat.le_of_ble_eq_true rfl⟩) hS (fun q _ h => hFc q h) hFc (fun r_7 _ t H locs ht hvm hw_7 hP _ _ hS => ?_)
      have hP := kt_heap2 ht hP
      clear ht hFc
      have hP : va_P (dC, dI) vwCl (mW cI cZ cS cC cJ a v) H := hP
      refine lv_if_eq (tgt := 42) hx hb dX3_isGoodAt_35 (by decide) (fun c_8 => ?_) (fun c_8 => ?_)
      · refine lv_iconst (v := 0) hx hb dX3_isGoodAt_42 (by decide) ?_
        exact W.zret (v := 0) (ty := .boolean) hx hb hr rfl (fun t ht hW => ⟨⟨0, (), rfl, (Or.inl rfl), kt_heap ht hP⟩, hS.F ht⟩) hS.2.2 dX3_isGoodAt_43
      · refine lv_iconst (v := 1) hx hb dX3_isGoodAt_38 (by decide) ?_
        refine lv_goto (tgt := 43) hx hb dX3_isGoodAt_39 (by decide) ?_
        exact W.zret (v := 1) (ty := .boolean) hx hb hr rfl (fun t ht hW => ⟨⟨1, (), rfl, (Or.inr rfl), kt_heap ht hP⟩, hS.F ht⟩) hS.2.2 dX3_isGoodAt_43
  · refine lv_aload_n hx hb dX3_isGoodAt_8 rfl (lv_at hl 0 rfl) ?_
    refine va_get (D := (dC, dI)) (ci := 3) (v := .int (v (10 + 3 * i) 8)) (C := RX3) (T := TX3) (N := 10) hx hb hts (fun w h => List.mem_cons_of_mem _ (inWX3 w h)) hown hK hP (10 + 3 * i) (at_S hi) rfl 8 (by decide) (hts _ (List.mem_cons_of_mem _ kw_t1_99)) (fun _ h9 => h9) rfl dX3_isGoodAt_9 ?_
    refine lv_topi (fun t_9 et_9 => ?_)
    refine lv_iload_n hx hb dX3_isGoodAt_12 rfl (lv_at hl 1 rfl) ?_
    have hFc := mA_free (a := a) hS hA hAc
    refine va_calli (va_runSN (As := [.int t_9, .int p0]) (rest := []) ⟨hx, hb, hml, hown, hts⟩ (c_X5_isIn l dC dI cI cZ cS cC cJ a v s.heap.size t_9 p0 hD hI.self) ⟨va_cnB 2 hts (gI (fun w h => List.mem_cons_of_mem _ h) kw_t1_213) rfl rfl rfl hN.1 (hts _ (List.mem_cons_of_mem _ kw_t1_1)) (by decide +kernel) ⟨Nat.le_of_ble_eq_true rfl, Nat.le_of_ble_eq_true rfl⟩, (hts _ (List.mem_cons_of_mem _ kw_t1_212)), trivial⟩ ⟨fun av U g mk q => by obtain ⟨q0, q1, qP, qK, qN⟩ := q; exact ⟨q0, q1, qP, va_K.moved (u := U) (U := U.calling g mk av) (Vm.Alike.refl U.vm) qK, mN_same qN⟩, fun U hU hW => ⟨rfl, by rw [hU], by rw [hU]; exact hP, va_K.moved hW.alike hK, mN_warm hW hN⟩⟩ rfl rfl hl.1 rfl (lv_room (Nat.le_of_ble_eq_true rfl)) dX3_isGoodAt_13 ⟨Nat.le_of_ble_eq_true rfl, Nat.le_of_ble_eq_true rfl⟩) hS (fun q _ h => hFc q h) hFc (fun r_10 _ t H locs ht hvm hw_10 hP _ _ hS => ?_)
    have hP := kt_heap2 ht hP
    clear ht hFc
    have hP : va_P (dC, dI) vwCl (mW cI cZ cS cC cJ a v) H := hP
    rcases hw_10.1 with hz9 | hz9
    · subst hz9
      exact W.zret (v := 0) (ty := .boolean) hx hb hr rfl (fun t ht hW => ⟨⟨0, (), rfl, (Or.inl rfl), kt_heap ht hP⟩, hS.F ht⟩) hS.2.2 dX3_isGoodAt_16
    · subst hz9
      exact W.zret (v := 1) (ty := .boolean) hx hb hr rfl (fun t ht hW => ⟨⟨1, (), rfl, (Or.inr rfl), kt_heap ht hP⟩, hS.F ht⟩) hS.2.2 dX3_isGoodAt_16

set_option maxHeartbeats 4000000 in
set_option maxRecDepth 100000 in
theorem c_X3_open (l : Launch) (dC : Nat → ClassId) (dI : Nat → Nat → Nat) (cI cZ cS cC cJ : ClassId) (a : Nat → Nat) (v : Nat → Nat → Int32) (sz : Nat) (i : Nat) (hi : i < 12) (p0 p1 p2 p3 p4 : Int32) (hD : mDD a) (hI : kI v v) : Met l yX3_open (Cond.code yX3_open cX3_open 6 none :: WW) ({ frames := 0, cells := 0, slots := 0, locals := 0 }) (va_Pc [.ref (a (10 + 3 * i)), .int p0, .int p1, .int p2, .int p3, .int p4] (fun U => U.heap.size = sz ∧ va_P (dC, dI) vwCl (mW cI cZ cS cC cJ a v) U.heap ∧ va_K (dC, dI) vwCl [(cI, .int), (cZ, .boolean), (cS, .object RX3), (cC, .object RX0), (cJ, .long)] U ∧ mN U)) (va_Qv (fun (u : Nat → Nat → Int32) => kI v u ∧ (u 0 = v 0)) (fun (u : Nat → Nat → Int32) (t : State) => va_P (dC, dI) vwCl (mW cI cZ cS cC cJ a u) t.heap) (mA a sz)) 0 0 (mA a sz) := by
  refine Met.ofW (cc := cX3_open) (maxL := 6) (ret := none) (by decide) rfl ?_
  intro p e s m args below meth c s₁ B hml hv
  obtain ⟨rfl, hsz, hP, hK, hN⟩ := hv
  have hx := B.exec
  have hb := B.bytes
  have hr := B.returns
  have hts := atoms_spec (ws := Cond.code yX3_open cX3_open 6 none :: WW) B.pre
  have hown : s.vm.findClass RX3 = some m.cls := findClass_of_methodNamed B.named
  have hlocks := B.notSynchronized
  subst hsz
  have hAc : ∀ c, c < 81 → mA a s.heap.size (a c) := fun c h => Or.inl ⟨c, h, rfl⟩
  have hA : ∀ q : Nat, s.heap.size ≤ q → mA a s.heap.size q := fun q h => Or.inr h
  generalize hAe : mA a s.heap.size = A at hAc hA ⊢
  have hS : va_S A s.heap s.heap [] := va_S.rf
  have hl := lv_entry ([.ref (a (10 + 3 * i)), .int p0, .int p1, .int p2, .int p3, .int p4]) (n := 6) (Nat.le_of_ble_eq_true rfl)
  rw [lg_entry_eq]
  generalize (lg_sl ([.ref (a (10 + 3 * i)), .int p0, .int p1, .int p2, .int p3, .int p4]) ++ List.replicate (6 - (lg_sl ([.ref (a (10 + 3 * i)), .int p0, .int p1, .int p2, .int p3, .int p4])).length) Slot.unset).toArray = ls at hl ⊢
  have hl : lv_has ls 6 [(0, .ref (a (10 + 3 * i))), (1, .int p0), (2, .int p1), (3, .int p2), (4, .int p3), (5, .int p4)] := hl
  refine lv_aload_n hx hb dX3_open_0 rfl (lv_at hl 0 rfl) ?_
  refine lv_iload_n hx hb dX3_open_1 rfl (lv_at hl 1 rfl) ?_
  refine va_put (D := (dC, dI)) (ci := 3) (v := .int p0) (ty := .int) (C := RX3) (T := TX3) (N := 10) hx hb hts (fun w h => List.mem_cons_of_mem _ (inWX3 w h)) tyX3 tyX3_ok nmX3 hown hK hP (mD_of hD hAc) hS (10 + 3 * i) (at_S hi) rfl 0 (by decide) (hts _ (List.mem_cons_of_mem _ kw_t1_80)) (fun _ h9 => h9) rfl (by decide +kernel) rfl rfl (Nat.le_of_ble_eq_true rfl) dX3_open_2 (fun H locs hP _ hS => ?_)
  obtain ⟨v_1, ev_1⟩ : ∃ z, z = mU v (10 + 3 * i) (upd (v (10 + 3 * i)) 0 p0) := ⟨_, rfl⟩
  have hP : va_P (dC, dI) vwCl (mW cI cZ cS cC cJ a v_1) H := by rw [ev_1]; exact mW_put hP (by omega) (by rw [gE_S hi]; rfl)
  have hI := hI.put ev_1 (by omega)
  refine lv_aload_n hx hb dX3_open_5 rfl (lv_at hl 0 rfl) ?_
  refine lv_iload_n hx hb dX3_open_6 rfl (lv_at hl 2 rfl) ?_
  refine va_put (D := (dC, dI)) (ci := 3) (v := .int p1) (ty := .int) (C := RX3) (T := TX3) (N := 10) hx hb hts (fun w h => List.mem_cons_of_mem _ (inWX3 w h)) tyX3 tyX3_ok nmX3 hown hK hP (mD_of hD hAc) hS (10 + 3 * i) (at_S hi) rfl 1 (by decide) (hts _ (List.mem_cons_of_mem _ kw_t1_83)) (fun _ h9 => h9) rfl (by decide +kernel) rfl rfl (Nat.le_of_ble_eq_true rfl) dX3_open_7 (fun H locs hP _ hS => ?_)
  obtain ⟨v_2, ev_2⟩ : ∃ z, z = mU v_1 (10 + 3 * i) (upd (v_1 (10 + 3 * i)) 1 p1) := ⟨_, rfl⟩
  have hP : va_P (dC, dI) vwCl (mW cI cZ cS cC cJ a v_2) H := by rw [ev_2]; exact mW_put hP (by omega) (by rw [gE_S hi]; rfl)
  have hI := hI.put ev_2 (by omega)
  refine lv_aload_n hx hb dX3_open_10 rfl (lv_at hl 0 rfl) ?_
  refine lv_iload_n hx hb dX3_open_11 rfl (lv_at hl 3 rfl) ?_
  refine va_put (D := (dC, dI)) (ci := 3) (v := .int p2) (ty := .int) (C := RX3) (T := TX3) (N := 10) hx hb hts (fun w h => List.mem_cons_of_mem _ (inWX3 w h)) tyX3 tyX3_ok nmX3 hown hK hP (mD_of hD hAc) hS (10 + 3 * i) (at_S hi) rfl 2 (by decide) (hts _ (List.mem_cons_of_mem _ kw_t1_86)) (fun _ h9 => h9) rfl (by decide +kernel) rfl rfl (Nat.le_of_ble_eq_true rfl) dX3_open_12 (fun H locs hP _ hS => ?_)
  obtain ⟨v_3, ev_3⟩ : ∃ z, z = mU v_2 (10 + 3 * i) (upd (v_2 (10 + 3 * i)) 2 p2) := ⟨_, rfl⟩
  have hP : va_P (dC, dI) vwCl (mW cI cZ cS cC cJ a v_3) H := by rw [ev_3]; exact mW_put hP (by omega) (by rw [gE_S hi]; rfl)
  have hI := hI.put ev_3 (by omega)
  refine lv_aload_n hx hb dX3_open_15 rfl (lv_at hl 0 rfl) ?_
  refine lv_iload hx hb dX3_open_16 (lv_at hl 4 rfl) ?_
  refine va_put (D := (dC, dI)) (ci := 3) (v := .int p3) (ty := .int) (C := RX3) (T := TX3) (N := 10) hx hb hts (fun w h => List.mem_cons_of_mem _ (inWX3 w h)) tyX3 tyX3_ok nmX3 hown hK hP (mD_of hD hAc) hS (10 + 3 * i) (at_S hi) rfl 3 (by decide) (hts _ (List.mem_cons_of_mem _ kw_t1_89)) (fun _ h9 => h9) rfl (by decide +kernel) rfl rfl (Nat.le_of_ble_eq_true rfl) dX3_open_18 (fun H locs hP _ hS => ?_)
  obtain ⟨v_4, ev_4⟩ : ∃ z, z = mU v_3 (10 + 3 * i) (upd (v_3 (10 + 3 * i)) 3 p3) := ⟨_, rfl⟩
  have hP : va_P (dC, dI) vwCl (mW cI cZ cS cC cJ a v_4) H := by rw [ev_4]; exact mW_put hP (by omega) (by rw [gE_S hi]; rfl)
  have hI := hI.put ev_4 (by omega)
  refine lv_aload_n hx hb dX3_open_21 rfl (lv_at hl 0 rfl) ?_
  refine lv_iload hx hb dX3_open_22 (lv_at hl 5 rfl) ?_
  refine va_put (D := (dC, dI)) (ci := 3) (v := .int p4) (ty := .int) (C := RX3) (T := TX3) (N := 10) hx hb hts (fun w h => List.mem_cons_of_mem _ (inWX3 w h)) tyX3 tyX3_ok nmX3 hown hK hP (mD_of hD hAc) hS (10 + 3 * i) (at_S hi) rfl 5 (by decide) (hts _ (List.mem_cons_of_mem _ kw_t1_94)) (fun _ h9 => h9) rfl (by decide +kernel) rfl rfl (Nat.le_of_ble_eq_true rfl) dX3_open_24 (fun H locs hP _ hS => ?_)
  obtain ⟨v_5, ev_5⟩ : ∃ z, z = mU v_4 (10 + 3 * i) (upd (v_4 (10 + 3 * i)) 5 p4) := ⟨_, rfl⟩
  have hP : va_P (dC, dI) vwCl (mW cI cZ cS cC cJ a v_5) H := by rw [ev_5]; exact mW_put hP (by omega) (by rw [gE_S hi]; rfl)
  have hI := hI.put ev_5 (by omega)
  refine lv_aload_n hx hb dX3_open_27 rfl (lv_at hl 0 rfl) ?_
  refine lv_iload_n hx hb dX3_open_28 rfl (lv_at hl 2 rfl) ?_
  refine va_put (D := (dC, dI)) (ci := 3) (v := .int p1) (ty := .int) (C := RX3) (T := TX3) (N := 10) hx hb hts (fun w h => List.mem_cons_of_mem _ (inWX3 w h)) tyX3 tyX3_ok nmX3 hown hK hP (mD_of hD hAc) hS (10 + 3 * i) (at_S hi) rfl 7 (by decide) (hts _ (List.mem_cons_of_mem _ kw_t1_97)) (fun _ h9 => h9) rfl (by decide +kernel) rfl rfl (Nat.le_of_ble_eq_true rfl) dX3_open_29 (fun H locs hP _ hS => ?_)
  obtain ⟨v_6, ev_6⟩ : ∃ z, z = mU v_5 (10 + 3 * i) (upd (v_5 (10 + 3 * i)) 7 p1) := ⟨_, rfl⟩
  have hP : va_P (dC, dI) vwCl (mW cI cZ cS cC cJ a v_6) H := by rw [ev_6]; exact mW_put hP (by omega) (by rw [gE_S hi]; rfl)
  have hI := hI.put ev_6 (by omega)
  refine lv_aload_n hx hb dX3_open_32 rfl (lv_at hl 0 rfl) ?_
  refine lv_iload_n hx hb dX3_open_33 rfl (lv_at hl 3 rfl) ?_
  refine va_put (D := (dC, dI)) (ci := 3) (v := .int p2) (ty := .int) (C := RX3) (T := TX3) (N := 10) hx hb hts (fun w h => List.mem_cons_of_mem _ (inWX3 w h)) tyX3 tyX3_ok nmX3 hown hK hP (mD_of hD hAc) hS (10 + 3 * i) (at_S hi) rfl 8 (by decide) (hts _ (List.mem_cons_of_mem _ kw_t1_99)) (fun _ h9 => h9) rfl (by decide +kernel) rfl rfl (Nat.le_of_ble_eq_true rfl) dX3_open_34 (fun H locs hP _ hS => ?_)
  obtain ⟨v_7, ev_7⟩ : ∃ z, z = mU v_6 (10 + 3 * i) (upd (v_6 (10 + 3 * i)) 8 p2) := ⟨_, rfl⟩
  have hP : va_P (dC, dI) vwCl (mW cI cZ cS cC cJ a v_7) H := by rw [ev_7]; exact mW_put hP (by omega) (by rw [gE_S hi]; rfl)
  have hI := hI.put ev_7 (by omega)
  exact W.vret hx hb hr (fun t ht hW => ⟨⟨v_7, rfl, ⟨hI, (by rw [ev_7, mU_ne _ _ (by first | decide | omega), ev_6, mU_ne _ _ (by first | decide | omega), ev_5, mU_ne _ _ (by first | decide | omega), ev_4, mU_ne _ _ (by first | decide | omega), ev_3, mU_ne _ _ (by first | decide | omega), ev_2, mU_ne _ _ (by first | decide | omega), ev_1, mU_ne _ _ (by first | decide | omega)])⟩, kt_heap ht hP⟩, hS.F ht⟩) hS.2.2 dX3_open_37

set_option maxHeartbeats 4000000 in
set_option maxRecDepth 100000 in
theorem c_X3_makeVersion (l : Launch) (dC : Nat → ClassId) (dI : Nat → Nat → Nat) (cI cZ cS cC cJ : ClassId) (a : Nat → Nat) (v : Nat → Nat → Int32) (sz : Nat) (i : Nat) (hi : i < 12) (p0 : Int32) (hD : mDD a) (hI : kI v v) : Met l yX3_makeVersion (Cond.code yX3_makeVersion cX3_makeVersion 2 none :: WW) ({ frames := 0, cells := 0, slots := 0, locals := 0 }) (va_Pc [.ref (a (10 + 3 * i)), .int p0] (fun U => U.heap.size = sz ∧ va_P (dC, dI) vwCl (mW cI cZ cS cC cJ a v) U.heap ∧ va_K (dC, dI) vwCl [(cI, .int), (cZ, .boolean), (cS, .object RX3), (cC, .object RX0), (cJ, .long)] U ∧ mN U)) (va_Qv (fun (u : Nat → Nat → Int32) => kI v u) (fun (u : Nat → Nat → Int32) (t : State) => va_P (dC, dI) vwCl (mW cI cZ cS cC cJ a u) t.heap) (mA a sz)) 0 0 (mA a sz) := by
  refine Met.ofW (cc := cX3_makeVersion) (maxL := 2) (ret := none) (by decide) rfl ?_
  intro p e s m args below meth c s₁ B hml hv
  obtain ⟨rfl, hsz, hP, hK, hN⟩ := hv
  have hx := B.exec
  have hb := B.bytes
  have hr := B.returns
  have hts := atoms_spec (ws := Cond.code yX3_makeVersion cX3_makeVersion 2 none :: WW) B.pre
  have hown : s.vm.findClass RX3 = some m.cls := findClass_of_methodNamed B.named
  have hlocks := B.notSynchronized
  subst hsz
  have hAc : ∀ c, c < 81 → mA a s.heap.size (a c) := fun c h => Or.inl ⟨c, h, rfl⟩
  have hA : ∀ q : Nat, s.heap.size ≤ q → mA a s.heap.size q := fun q h => Or.inr h
  generalize hAe : mA a s.heap.size = A at hAc hA ⊢
  have hS : va_S A s.heap s.heap [] := va_S.rf
  have hl := lv_entry ([.ref (a (10 + 3 * i)), .int p0]) (n := 2) (Nat.le_of_ble_eq_true rfl)
  rw [lg_entry_eq]
  generalize (lg_sl ([.ref (a (10 + 3 * i)), .int p0]) ++ List.replicate (2 - (lg_sl ([.ref (a (10 + 3 * i)), .int p0])).length) Slot.unset).toArray = ls at hl ⊢
  have hl : lv_has ls 2 [(0, .ref (a (10 + 3 * i))), (1, .int p0)] := hl
  refine lv_aload_n hx hb dX3_makeVersion_0 rfl (lv_at hl 0 rfl) ?_
  refine lv_dup hx hb dX3_makeVersion_1 rfl ?_
  refine va_get (D := (dC, dI)) (ci := 3) (v := .int (v (10 + 3 * i) 4)) (C := RX3) (T := TX3) (N := 10) hx hb hts (fun w h => List.mem_cons_of_mem _ (inWX3 w h)) hown hK hP (10 + 3 * i) (at_S hi) rfl 4 (by decide) (hts _ (List.mem_cons_of_mem _ kw_t1_91)) (fun _ h9 => h9) rfl dX3_makeVersion_2 ?_
  refine lv_topi (fun t_1 et_1 => ?_)
  refine lv_iconst (v := 1) hx hb dX3_makeVersion_5 (by decide) ?_
  refine lv_iadd hx hb dX3_makeVersion_6 ?_
  refine lv_topi (fun t_2 et_2 => ?_)
  refine va_put (D := (dC, dI)) (ci := 3) (v := .int t_2) (ty := .int) (C := RX3) (T := TX3) (N := 10) hx hb hts (fun w h => List.mem_cons_of_mem _ (inWX3 w h)) tyX3 tyX3_ok nmX3 hown hK hP (mD_of hD hAc) hS (10 + 3 * i) (at_S hi) rfl 4 (by decide) (hts _ (List.mem_cons_of_mem _ kw_t1_91)) (fun _ h9 => h9) rfl (by decide +kernel) rfl rfl (Nat.le_of_ble_eq_true rfl) dX3_makeVersion_7 (fun H locs hP _ hS => ?_)
  obtain ⟨v_3, ev_3⟩ : ∃ z, z = mU v (10 + 3 * i) (upd (v (10 + 3 * i)) 4 t_2) := ⟨_, rfl⟩
  have hP : va_P (dC, dI) vwCl (mW cI cZ cS cC cJ a v_3) H := by rw [ev_3]; exact mW_put hP (by omega) (by rw [gE_S hi]; rfl)
  have hI := hI.put ev_3 (by omega)
  refine lv_aload_n hx hb dX3_makeVersion_10 rfl (lv_at hl 0 rfl) ?_
  refine lv_aload_n hx hb dX3_makeVersion_11 rfl (lv_at hl 0 rfl) ?_
  refine va_get (D := (dC, dI)) (ci := 3) (v := .int (v_3 (10 + 3 * i) 5)) (C := RX3) (T := TX3) (N := 10) hx hb hts (fun w h => List.mem_cons_of_mem _ (inWX3 w h)) hown hK hP (10 + 3 * i) (at_S hi) rfl 5 (by decide) (hts _ (List.mem_cons_of_mem _ kw_t1_94)) (fun _ h9 => h9) rfl dX3_makeVersion_12 ?_
  refine lv_topi (fun t_4 et_4 => ?_)
  refine va_put (D := (dC, dI)) (ci := 3) (v := .int t_4) (ty := .int) (C := RX3) (T := TX3) (N := 10) hx hb hts (fun w h => List.mem_cons_of_mem _ (inWX3 w h)) tyX3 tyX3_ok nmX3 hown hK hP (mD_of hD hAc) hS (10 + 3 * i) (at_S hi) rfl 6 (by decide) (hts _ (List.mem_cons_of_mem _ kw_t1_96)) (fun _ h9 => h9) rfl (by decide +kernel) rfl rfl (Nat.le_of_ble_eq_true rfl) dX3_makeVersion_15 (fun H locs hP _ hS => ?_)
  obtain ⟨v_5, ev_5⟩ : ∃ z, z = mU v_3 (10 + 3 * i) (upd (v_3 (10 + 3 * i)) 6 t_4) := ⟨_, rfl⟩
  have hP : va_P (dC, dI) vwCl (mW cI cZ cS cC cJ a v_5) H := by rw [ev_5]; exact mW_put hP (by omega) (by rw [gE_S hi]; rfl)
  have hI := hI.put ev_5 (by omega)
  refine lv_aload_n hx hb dX3_makeVersion_18 rfl (lv_at hl 0 rfl) ?_
  refine lv_iload_n hx hb dX3_makeVersion_19 rfl (lv_at hl 1 rfl) ?_
  refine va_put (D := (dC, dI)) (ci := 3) (v := .int p0) (ty := .int) (C := RX3) (T := TX3) (N := 10) hx hb hts (fun w h => List.mem_cons_of_mem _ (inWX3 w h)) tyX3 tyX3_ok nmX3 hown hK hP (mD_of hD hAc) hS (10 + 3 * i) (at_S hi) rfl 5 (by decide) (hts _ (List.mem_cons_of_mem _ kw_t1_94)) (fun _ h9 => h9) rfl (by decide +kernel) rfl rfl (Nat.le_of_ble_eq_true rfl) dX3_makeVersion_20 (fun H locs hP _ hS => ?_)
  obtain ⟨v_6, ev_6⟩ : ∃ z, z = mU v_5 (10 + 3 * i) (upd (v_5 (10 + 3 * i)) 5 p0) := ⟨_, rfl⟩
  have hP : va_P (dC, dI) vwCl (mW cI cZ cS cC cJ a v_6) H := by rw [ev_6]; exact mW_put hP (by omega) (by rw [gE_S hi]; rfl)
  have hI := hI.put ev_6 (by omega)
  refine lv_aload_n hx hb dX3_makeVersion_23 rfl (lv_at hl 0 rfl) ?_
  refine lv_iconst (v := 0) hx hb dX3_makeVersion_24 (by decide) ?_
  refine va_put (D := (dC, dI)) (ci := 3) (v := .int 0) (ty := .int) (C := RX3) (T := TX3) (N := 10) hx hb hts (fun w h => List.mem_cons_of_mem _ (inWX3 w h)) tyX3 tyX3_ok nmX3 hown hK hP (mD_of hD hAc) hS (10 + 3 * i) (at_S hi) rfl 7 (by decide) (hts _ (List.mem_cons_of_mem _ kw_t1_97)) (fun _ h9 => h9) rfl (by decide +kernel) rfl rfl (Nat.le_of_ble_eq_true rfl) dX3_makeVersion_25 (fun H locs hP _ hS => ?_)
  obtain ⟨v_7, ev_7⟩ : ∃ z, z = mU v_6 (10 + 3 * i) (upd (v_6 (10 + 3 * i)) 7 0) := ⟨_, rfl⟩
  have hP : va_P (dC, dI) vwCl (mW cI cZ cS cC cJ a v_7) H := by rw [ev_7]; exact mW_put hP (by omega) (by rw [gE_S hi]; rfl)
  have hI := hI.put ev_7 (by omega)
  refine lv_aload_n hx hb dX3_makeVersion_28 rfl (lv_at hl 0 rfl) ?_
  refine lv_aload_n hx hb dX3_makeVersion_29 rfl (lv_at hl 0 rfl) ?_
  refine va_get (D := (dC, dI)) (ci := 3) (v := .int (v_7 (10 + 3 * i) 8)) (C := RX3) (T := TX3) (N := 10) hx hb hts (fun w h => List.mem_cons_of_mem _ (inWX3 w h)) hown hK hP (10 + 3 * i) (at_S hi) rfl 8 (by decide) (hts _ (List.mem_cons_of_mem _ kw_t1_99)) (fun _ h9 => h9) rfl dX3_makeVersion_30 ?_
  refine lv_topi (fun t_8 et_8 => ?_)
  refine va_put (D := (dC, dI)) (ci := 3) (v := .int t_8) (ty := .int) (C := RX3) (T := TX3) (N := 10) hx hb hts (fun w h => List.mem_cons_of_mem _ (inWX3 w h)) tyX3 tyX3_ok nmX3 hown hK hP (mD_of hD hAc) hS (10 + 3 * i) (at_S hi) rfl 9 (by decide) (hts _ (List.mem_cons_of_mem _ kw_t1_101)) (fun _ h9 => h9) rfl (by decide +kernel) rfl rfl (Nat.le_of_ble_eq_true rfl) dX3_makeVersion_33 (fun H locs hP _ hS => ?_)
  obtain ⟨v_9, ev_9⟩ : ∃ z, z = mU v_7 (10 + 3 * i) (upd (v_7 (10 + 3 * i)) 9 t_8) := ⟨_, rfl⟩
  have hP : va_P (dC, dI) vwCl (mW cI cZ cS cC cJ a v_9) H := by rw [ev_9]; exact mW_put hP (by omega) (by rw [gE_S hi]; rfl)
  have hI := hI.put ev_9 (by omega)
  refine lv_aload_n hx hb dX3_makeVersion_36 rfl (lv_at hl 0 rfl) ?_
  refine lv_iconst (v := 0) hx hb dX3_makeVersion_37 (by decide) ?_
  refine va_put (D := (dC, dI)) (ci := 3) (v := .int 0) (ty := .int) (C := RX3) (T := TX3) (N := 10) hx hb hts (fun w h => List.mem_cons_of_mem _ (inWX3 w h)) tyX3 tyX3_ok nmX3 hown hK hP (mD_of hD hAc) hS (10 + 3 * i) (at_S hi) rfl 8 (by decide) (hts _ (List.mem_cons_of_mem _ kw_t1_99)) (fun _ h9 => h9) rfl (by decide +kernel) rfl rfl (Nat.le_of_ble_eq_true rfl) dX3_makeVersion_38 (fun H locs hP _ hS => ?_)
  obtain ⟨v_10, ev_10⟩ : ∃ z, z = mU v_9 (10 + 3 * i) (upd (v_9 (10 + 3 * i)) 8 0) := ⟨_, rfl⟩
  have hP : va_P (dC, dI) vwCl (mW cI cZ cS cC cJ a v_10) H := by rw [ev_10]; exact mW_put hP (by omega) (by rw [gE_S hi]; rfl)
  have hI := hI.put ev_10 (by omega)
  exact W.vret hx hb hr (fun t ht hW => ⟨⟨v_10, rfl, hI, kt_heap ht hP⟩, hS.F ht⟩) hS.2.2 dX3_makeVersion_41
end
section
set_option maxHeartbeats 4000000 in
set_option maxRecDepth 100000 in
theorem c_J6_bitCount_0f7a4 (l : Launch) (dC : Nat → ClassId) (dI : Nat → Nat → Nat) (cI cZ cS cC cJ : ClassId) (a : Nat → Nat) (v : Nat → Nat → Int32) (sz : Nat) (p0 : Int32) (hD : mDD a) : Met l yJ6_bitCount_0f7a4 (Cond.code yJ6_bitCount_0f7a4 cJ6_bitCount_0f7a4 1 (some .int) :: WW) ({ frames := 0, cells := 0, slots := 0, locals := 0 }) (va_Pc [.int p0] (fun U => U.heap.size = sz ∧ va_P (dC, dI) vwCl (mW cI cZ cS cC cJ a v) U.heap ∧ va_K (dC, dI) vwCl [(cI, .int), (cZ, .boolean), (cS, .object RX3), (cC, .object RX0), (cJ, .long)] U ∧ mN U)) (va_Qi (fun (r : Int32) (_u : Unit) => True) (fun (_ : Unit) (t : State) => va_P (dC, dI) vwCl (mW cI cZ cS cC cJ a v) t.heap) (mA a sz)) 0 0 (mA a sz) := by
  refine Met.ofW (cc := cJ6_bitCount_0f7a4) (maxL := 1) (ret := (some .int)) (by decide) rfl ?_
  intro p e s m args below meth c s₁ B hml hv
  obtain ⟨rfl, hsz, hP, hK, hN⟩ := hv
  have hx := B.exec
  have hb := B.bytes
  have hr := B.returns
  have hts := atoms_spec (ws := Cond.code yJ6_bitCount_0f7a4 cJ6_bitCount_0f7a4 1 (some .int) :: WW) B.pre
  have hown : s.vm.findClass RJ6 = some m.cls := findClass_of_methodNamed B.named
  have hlocks := B.notSynchronized
  subst hsz
  have hAc : ∀ c, c < 81 → mA a s.heap.size (a c) := fun c h => Or.inl ⟨c, h, rfl⟩
  have hA : ∀ q : Nat, s.heap.size ≤ q → mA a s.heap.size q := fun q h => Or.inr h
  generalize hAe : mA a s.heap.size = A at hAc hA ⊢
  have hS : va_S A s.heap s.heap [] := va_S.rf
  have hl := lv_entry ([.int p0]) (n := 1) (Nat.le_of_ble_eq_true rfl)
  rw [lg_entry_eq]
  generalize (lg_sl ([.int p0]) ++ List.replicate (1 - (lg_sl ([.int p0])).length) Slot.unset).toArray = ls at hl ⊢
  have hl : lv_has ls 1 [(0, .int p0)] := hl
  refine lv_iload_n hx hb dJ6_bitCount_0f7a4_0 rfl (lv_at hl 0 rfl) ?_
  refine lv_iload_n hx hb dJ6_bitCount_0f7a4_1 rfl (lv_at hl 0 rfl) ?_
  refine lv_iconst (v := 1) hx hb dJ6_bitCount_0f7a4_2 (by decide) ?_
  refine lv_iushr hx hb dJ6_bitCount_0f7a4_3 rfl ?_
  refine lv_topi (fun t_1 et_1 => ?_)
  refine lv_ldcw (v := 1431655765) hx hb hown (hts _ (List.mem_cons_of_mem _ kw_t2_157)) dJ6_bitCount_0f7a4_4 ?_
  refine lv_iand hx hb dJ6_bitCount_0f7a4_7 ?_
  refine lv_topi (fun t_2 et_2 => ?_)
  refine lv_isub hx hb dJ6_bitCount_0f7a4_8 ?_
  refine lv_topi (fun t_3 et_3 => ?_)
  refine lv_istore_n (lv' := [(0, .int t_3)]) hx hb dJ6_bitCount_0f7a4_9 rfl hl (by decide) rfl (fun ls hl => ?_)
  refine lv_iload_n hx hb dJ6_bitCount_0f7a4_10 rfl (lv_at hl 0 rfl) ?_
  refine lv_ldcw (v := 858993459) hx hb hown (hts _ (List.mem_cons_of_mem _ kw_t2_158)) dJ6_bitCount_0f7a4_11 ?_
  refine lv_iand hx hb dJ6_bitCount_0f7a4_14 ?_
  refine lv_topi (fun t_4 et_4 => ?_)
  refine lv_iload_n hx hb dJ6_bitCount_0f7a4_15 rfl (lv_at hl 0 rfl) ?_
  refine lv_iconst (v := 2) hx hb dJ6_bitCount_0f7a4_16 (by decide) ?_
  refine lv_iushr hx hb dJ6_bitCount_0f7a4_17 rfl ?_
  refine lv_topi (fun t_5 et_5 => ?_)
  refine lv_ldcw (v := 858993459) hx hb hown (hts _ (List.mem_cons_of_mem _ kw_t2_158)) dJ6_bitCount_0f7a4_18 ?_
  refine lv_iand hx hb dJ6_bitCount_0f7a4_21 ?_
  refine lv_topi (fun t_6 et_6 => ?_)
  refine lv_iadd hx hb dJ6_bitCount_0f7a4_22 ?_
  refine lv_topi (fun t_7 et_7 => ?_)
  refine lv_istore_n (lv' := [(0, .int t_7)]) hx hb dJ6_bitCount_0f7a4_23 rfl hl (by decide) rfl (fun ls hl => ?_)
  refine lv_iload_n hx hb dJ6_bitCount_0f7a4_24 rfl (lv_at hl 0 rfl) ?_
  refine lv_iload_n hx hb dJ6_bitCount_0f7a4_25 rfl (lv_at hl 0 rfl) ?_
  refine lv_iconst (v := 4) hx hb dJ6_bitCount_0f7a4_26 (by decide) ?_
  refine lv_iushr hx hb dJ6_bitCount_0f7a4_27 rfl ?_
  refine lv_topi (fun t_8 et_8 => ?_)
  refine lv_iadd hx hb dJ6_bitCount_0f7a4_28 ?_
  refine lv_topi (fun t_9 et_9 => ?_)
  refine lv_ldcw (v := 252645135) hx hb hown (hts _ (List.mem_cons_of_mem _ kw_t2_159)) dJ6_bitCount_0f7a4_29 ?_
  refine lv_iand hx hb dJ6_bitCount_0f7a4_32 ?_
  refine lv_topi (fun t_10 et_10 => ?_)
  refine lv_istore_n (lv' := [(0, .int t_10)]) hx hb dJ6_bitCount_0f7a4_33 rfl hl (by decide) rfl (fun ls hl => ?_)
  refine lv_iload_n hx hb dJ6_bitCount_0f7a4_34 rfl (lv_at hl 0 rfl) ?_
  refine lv_iload_n hx hb dJ6_bitCount_0f7a4_35 rfl (lv_at hl 0 rfl) ?_
  refine lv_bipush (v := 8) hx hb dJ6_bitCount_0f7a4_36 (by decide) ?_
  refine lv_iushr hx hb dJ6_bitCount_0f7a4_38 rfl ?_
  refine lv_topi (fun t_11 et_11 => ?_)
  refine lv_iadd hx hb dJ6_bitCount_0f7a4_39 ?_
  refine lv_topi (fun t_12 et_12 => ?_)
  refine lv_istore_n (lv' := [(0, .int t_12)]) hx hb dJ6_bitCount_0f7a4_40 rfl hl (by decide) rfl (fun ls hl => ?_)
  refine lv_iload_n hx hb dJ6_bitCount_0f7a4_41 rfl (lv_at hl 0 rfl) ?_
  refine lv_iload_n hx hb dJ6_bitCount_0f7a4_42 rfl (lv_at hl 0 rfl) ?_
  refine lv_bipush (v := 16) hx hb dJ6_bitCount_0f7a4_43 (by decide) ?_
  refine lv_iushr hx hb dJ6_bitCount_0f7a4_45 rfl ?_
  refine lv_topi (fun t_13 et_13 => ?_)
  refine lv_iadd hx hb dJ6_bitCount_0f7a4_46 ?_
  refine lv_topi (fun t_14 et_14 => ?_)
  refine lv_istore_n (lv' := [(0, .int t_14)]) hx hb dJ6_bitCount_0f7a4_47 rfl hl (by decide) rfl (fun ls hl => ?_)
  refine lv_iload_n hx hb dJ6_bitCount_0f7a4_48 rfl (lv_at hl 0 rfl) ?_
  refine lv_bipush (v := 63) hx hb dJ6_bitCount_0f7a4_49 (by decide) ?_
  refine lv_iand hx hb dJ6_bitCount_0f7a4_51 ?_
  refine lv_topi (fun t_15 et_15 => ?_)
  exact W.iret (v := t_15) hx hb hr (fun t ht hW => ⟨⟨t_15, (), rfl, trivial, kt_heap ht hP⟩, hS.F ht⟩) hS.2.2 dJ6_bitCount_0f7a4_52

set_option maxHeartbeats 4000000 in
set_option maxRecDepth 100000 in
theorem c_X0_letterCount (l : Launch) (dC : Nat → ClassId) (dI : Nat → Nat → Nat) (cI cZ cS cC cJ : ClassId) (a : Nat → Nat) (v : Nat → Nat → Int32) (sz : Nat) (i : Nat) (hi : i < 12) (hD : mDD a) (hI : kI v v) : Met l yX0_letterCount (Cond.code yX0_letterCount cX0_letterCount 1 (some .int) :: WW) ({ frames := 1, cells := 0, slots := 0, locals := 30 }) (va_Pc [.ref (a (9 + 3 * i))] (fun U => U.heap.size = sz ∧ va_P (dC, dI) vwCl (mW cI cZ cS cC cJ a v) U.heap ∧ va_K (dC, dI) vwCl [(cI, .int), (cZ, .boolean), (cS, .object RX3), (cC, .object RX0), (cJ, .long)] U ∧ mN U)) (va_Qi (fun (r : Int32) (_u : Unit) => True) (fun (_ : Unit) (t : State) => va_P (dC, dI) vwCl (mW cI cZ cS cC cJ a v) t.heap) (mA a sz)) 0 0 (mA a sz) := by
  refine Met.ofW (cc := cX0_letterCount) (maxL := 1) (ret := (some .int)) (by decide) rfl ?_
  intro p e s m args below meth c s₁ B hml hv
  obtain ⟨rfl, hsz, hP, hK, hN⟩ := hv
  have hx := B.exec
  have hb := B.bytes
  have hr := B.returns
  have hts := atoms_spec (ws := Cond.code yX0_letterCount cX0_letterCount 1 (some .int) :: WW) B.pre
  have hown : s.vm.findClass RX0 = some m.cls := findClass_of_methodNamed B.named
  have hlocks := B.notSynchronized
  subst hsz
  have hAc : ∀ c, c < 81 → mA a s.heap.size (a c) := fun c h => Or.inl ⟨c, h, rfl⟩
  have hA : ∀ q : Nat, s.heap.size ≤ q → mA a s.heap.size q := fun q h => Or.inr h
  generalize hAe : mA a s.heap.size = A at hAc hA ⊢
  have hS : va_S A s.heap s.heap [] := va_S.rf
  have hl := lv_entry ([.ref (a (9 + 3 * i))]) (n := 1) (Nat.le_of_ble_eq_true rfl)
  rw [lg_entry_eq]
  generalize (lg_sl ([.ref (a (9 + 3 * i))]) ++ List.replicate (1 - (lg_sl ([.ref (a (9 + 3 * i))])).length) Slot.unset).toArray = ls at hl ⊢
  have hl : lv_has ls 1 [(0, .ref (a (9 + 3 * i)))] := hl
  refine lv_aload_n hx hb dX0_letterCount_0 rfl (lv_at hl 0 rfl) ?_
  refine va_get (D := (dC, dI)) (ci := 0) (v := .int (v (9 + 3 * i) 2)) (C := RX0) (T := TX0) (N := 9) hx hb hts (fun w h => List.mem_cons_of_mem _ (inWX0 w h)) hown hK hP (9 + 3 * i) (at_C hi) rfl 2 (by decide) (hts _ (List.mem_cons_of_mem _ kw_t1_127)) (fun _ h9 => h9) rfl dX0_letterCount_1 ?_
  refine lv_topi (fun t_1 et_1 => ?_)
  have hFc := mA_free (a := a) hS hA hAc
  refine va_calli (va_runS (As := [.int t_1]) (rest := []) ⟨hx, hb, hml, hown, hts⟩ (c_J6_bitCount_0f7a4 l dC dI cI cZ cS cC cJ a v s.heap.size t_1 hD) (va_cwS 1 hts (gS (fun w h => List.mem_cons_of_mem _ h) kw_t2_154 kw_t2_155 kw_t1_9 kw_t2_156) rfl rfl rfl (by decide +kernel) ⟨Nat.le_of_ble_eq_true rfl, Nat.le_of_ble_eq_true rfl⟩) ⟨fun av U g mk q => by obtain ⟨q0, q1, qP, qK, qN⟩ := q; exact ⟨q0, q1, qP, va_K.moved (u := U) (U := U.calling g mk av) (Vm.Alike.refl U.vm) qK, mN_same qN⟩, fun U hU hW => ⟨rfl, by rw [hU], by rw [hU]; exact hP, va_K.moved hW.alike hK, mN_warm hW hN⟩⟩ rfl rfl hl.1 rfl (lv_room (Nat.le_of_ble_eq_true rfl)) dX0_letterCount_4 ⟨Nat.le_of_ble_eq_true rfl, Nat.le_of_ble_eq_true rfl⟩) hS (fun q _ h => hFc q h) hFc (fun r_2 _ t H locs ht hvm hw_2 hP _ _ hS => ?_)
  have hP := kt_heap2 ht hP
  clear ht hFc
  have hP : va_P (dC, dI) vwCl (mW cI cZ cS cC cJ a v) H := hP
  exact W.iret (v := r_2) hx hb hr (fun t ht hW => ⟨⟨r_2, (), rfl, trivial, kt_heap ht hP⟩, hS.F ht⟩) hS.2.2 dX0_letterCount_7

set_option maxHeartbeats 4000000 in
set_option maxRecDepth 100000 in
theorem c_X4_isDirect (l : Launch) (dC : Nat → ClassId) (dI : Nat → Nat → Nat) (cI cZ cS cC cJ : ClassId) (a : Nat → Nat) (v : Nat → Nat → Int32) (sz : Nat) (p0 p1 : Int32) (hD : mDD a) (hI : kI v v) (i0 : Nat) (hi0 : i0 < 12) (ei0 : p0 = nI i0) : Met l yX4_isDirect (Cond.code yX4_isDirect cX4_isDirect 3 (some .boolean) :: WW) ({ frames := 1, cells := 0, slots := 0, locals := 30 }) (va_Pc [.ref (a 3), .int p0, .int p1] (fun U => U.heap.size = sz ∧ va_P (dC, dI) vwCl (mW cI cZ cS cC cJ a v) U.heap ∧ va_K (dC, dI) vwCl [(cI, .int), (cZ, .boolean), (cS, .object RX3), (cC, .object RX0), (cJ, .long)] U ∧ mN U)) (va_Qi (fun (r : Int32) (_u : Unit) => ((r = 0 ∨ r = 1) ∧ ∀ w, w < 16 → p1 = nI w → (r = 1 ↔ dnb (v 4 i0) w))) (fun (_ : Unit) (t : State) => va_P (dC, dI) vwCl (mW cI cZ cS cC cJ a v) t.heap) (mA a sz)) 0 0 (mA a sz) := by
  refine Met.ofW (cc := cX4_isDirect) (maxL := 3) (ret := (some .boolean)) (by decide) rfl ?_
  intro p e s m args below meth c s₁ B hml hv
  obtain ⟨rfl, hsz, hP, hK, hN⟩ := hv
  have hx := B.exec
  have hb := B.bytes
  have hr := B.returns
  have hts := atoms_spec (ws := Cond.code yX4_isDirect cX4_isDirect 3 (some .boolean) :: WW) B.pre
  have hown : s.vm.findClass RX4 = some m.cls := findClass_of_methodNamed B.named
  have hlocks := B.notSynchronized
  subst hsz
  have hAc : ∀ c, c < 81 → mA a s.heap.size (a c) := fun c h => Or.inl ⟨c, h, rfl⟩
  have hA : ∀ q : Nat, s.heap.size ≤ q → mA a s.heap.size q := fun q h => Or.inr h
  generalize hAe : mA a s.heap.size = A at hAc hA ⊢
  have hS : va_S A s.heap s.heap [] := va_S.rf
  have hl := lv_entry ([.ref (a 3), .int p0, .int p1]) (n := 3) (Nat.le_of_ble_eq_true rfl)
  rw [lg_entry_eq]
  generalize (lg_sl ([.ref (a 3), .int p0, .int p1]) ++ List.replicate (3 - (lg_sl ([.ref (a 3), .int p0, .int p1])).length) Slot.unset).toArray = ls at hl ⊢
  have hl : lv_has ls 3 [(0, .ref (a 3)), (1, .int p0), (2, .int p1)] := hl
  refine lv_aload_n hx hb dX4_isDirect_0 rfl (lv_at hl 0 rfl) ?_
  refine va_get (D := (dC, dI)) (ci := 4) (v := .ref (a 4)) (C := RX4) (T := TX4) (N := 1) hx hb hts (fun w h => List.mem_cons_of_mem _ (inWX4 w h)) hown hK hP 3 at_3 rfl 0 (by decide) (hts _ (List.mem_cons_of_mem _ kw_t1_32)) (fun _ h9 => h9) rfl dX4_isDirect_1 ?_
  refine lv_iload_n hx hb dX4_isDirect_4 rfl (lv_at hl 1 rfl) ?_
  refine va_iald hx hb hK hP 4 0 at_4 rfl (kt_inN ei0 (by omega) (by decide)) dX4_isDirect_5 ?_
  refine lv_topi (fun t_1 et_1 => ?_)
  rw [ei0, nI_clamp (by omega)] at et_1
  refine lv_iload_n hx hb dX4_isDirect_6 rfl (lv_at hl 2 rfl) ?_
  have hFc := mA_free (a := a) hS hA hAc
  refine va_calli (va_runSN (As := [.int t_1, .int p1]) (rest := []) ⟨hx, hb, hml, hown, hts⟩ (c_X5_isIn l dC dI cI cZ cS cC cJ a v s.heap.size t_1 p1 hD hI.self) ⟨va_cnB 2 hts (gI (fun w h => List.mem_cons_of_mem _ h) kw_t1_213) rfl rfl rfl hN.2.1 (hts _ (List.mem_cons_of_mem _ kw_t1_1)) (by decide +kernel) ⟨Nat.le_of_ble_eq_true rfl, Nat.le_of_ble_eq_true rfl⟩, (hts _ (List.mem_cons_of_mem _ kw_t1_212)), trivial⟩ ⟨fun av U g mk q => by obtain ⟨q0, q1, qP, qK, qN⟩ := q; exact ⟨q0, q1, qP, va_K.moved (u := U) (U := U.calling g mk av) (Vm.Alike.refl U.vm) qK, mN_same qN⟩, fun U hU hW => ⟨rfl, by rw [hU], by rw [hU]; exact hP, va_K.moved hW.alike hK, mN_warm hW hN⟩⟩ rfl rfl hl.1 rfl (lv_room (Nat.le_of_ble_eq_true rfl)) dX4_isDirect_7 ⟨Nat.le_of_ble_eq_true rfl, Nat.le_of_ble_eq_true rfl⟩) hS (fun q _ h => hFc q h) hFc (fun r_2 _ t H locs ht hvm hw_2 hP _ _ hS => ?_)
  have hP := kt_heap2 ht hP
  clear ht hFc
  have hP : va_P (dC, dI) vwCl (mW cI cZ cS cC cJ a v) H := hP
  rcases hw_2.1 with hz9 | hz9
  · subst hz9
    exact W.zret (v := 0) (ty := .boolean) hx hb hr rfl (fun t ht hW => ⟨⟨0, (), rfl, ⟨Or.inl rfl, fun w hw9 e9 => by rw [← et_1]; exact hw_2.2 w hw9 e9⟩, kt_heap ht hP⟩, hS.F ht⟩) hS.2.2 dX4_isDirect_10
  · subst hz9
    exact W.zret (v := 1) (ty := .boolean) hx hb hr rfl (fun t ht hW => ⟨⟨1, (), rfl, ⟨Or.inr rfl, fun w hw9 e9 => by rw [← et_1]; exact hw_2.2 w hw9 e9⟩, kt_heap ht hP⟩, hS.F ht⟩) hS.2.2 dX4_isDirect_10

set_option maxHeartbeats 4000000 in
set_option maxRecDepth 100000 in
theorem c_X4_put (l : Launch) (dC : Nat → ClassId) (dI : Nat → Nat → Nat) (cI cZ cS cC cJ : ClassId) (a : Nat → Nat) (v : Nat → Nat → Int32) (sz : Nat) (p0 p1 p2 : Int32) (hD : mDD a) (hI : kI v v) (i0 : Nat) (hi0 : i0 < 12) (ei0 : p0 = nI i0) : Met l yX4_put (Cond.code yX4_put cX4_put 5 none :: WW) ({ frames := 0, cells := 0, slots := 0, locals := 0 }) (va_Pc [.ref (a 3), .int p0, .int p1, .int p2] (fun U => U.heap.size = sz ∧ va_P (dC, dI) vwCl (mW cI cZ cS cC cJ a v) U.heap ∧ va_K (dC, dI) vwCl [(cI, .int), (cZ, .boolean), (cS, .object RX3), (cC, .object RX0), (cJ, .long)] U ∧ mN U)) (va_Qv (fun (u : Nat → Nat → Int32) => kH v u ∧ (∃ q, u = mU v 4 (upd (v 4) i0 q) ∧ ∀ w, w < 12 → p1 = nI w → ∀ y, y < 12 → (dnb q y ↔ if y = w then p2 ≠ 0 else dnb (v 4 i0) y))) (fun (u : Nat → Nat → Int32) (t : State) => va_P (dC, dI) vwCl (mW cI cZ cS cC cJ a u) t.heap) (mA a sz)) 0 0 (mA a sz) := by
  refine Met.ofW (cc := cX4_put) (maxL := 5) (ret := none) (by decide) rfl ?_
  intro p e s m args below meth c s₁ B hml hv
  obtain ⟨rfl, hsz, hP, hK, hN⟩ := hv
  have hx := B.exec
  have hb := B.bytes
  have hr := B.returns
  have hts := atoms_spec (ws := Cond.code yX4_put cX4_put 5 none :: WW) B.pre
  have hown : s.vm.findClass RX4 = some m.cls := findClass_of_methodNamed B.named
  have hlocks := B.notSynchronized
  subst hsz
  have hAc : ∀ c, c < 81 → mA a s.heap.size (a c) := fun c h => Or.inl ⟨c, h, rfl⟩
  have hA : ∀ q : Nat, s.heap.size ≤ q → mA a s.heap.size q := fun q h => Or.inr h
  generalize hAe : mA a s.heap.size = A at hAc hA ⊢
  have hS : va_S A s.heap s.heap [] := va_S.rf
  have hl := lv_entry ([.ref (a 3), .int p0, .int p1, .int p2]) (n := 5) (Nat.le_of_ble_eq_true rfl)
  rw [lg_entry_eq]
  generalize (lg_sl ([.ref (a 3), .int p0, .int p1, .int p2]) ++ List.replicate (5 - (lg_sl ([.ref (a 3), .int p0, .int p1, .int p2])).length) Slot.unset).toArray = ls at hl ⊢
  have hl : lv_has ls 5 [(0, .ref (a 3)), (1, .int p0), (2, .int p1), (3, .int p2)] := hl
  have hI := hI.toH
  refine lv_iconst (v := 1) hx hb dX4_put_0 (by decide) ?_
  refine lv_iload_n hx hb dX4_put_1 rfl (lv_at hl 2 rfl) ?_
  refine lv_ishl hx hb dX4_put_2 ?_
  refine lv_topi (fun t_1 et_1 => ?_)
  refine lv_istore (lv' := [(4, .int t_1), (0, .ref (a 3)), (1, .int p0), (2, .int p1), (3, .int p2)]) hx hb dX4_put_3 hl (by decide) rfl (fun ls hl => ?_)
  refine lv_aload_n hx hb dX4_put_5 rfl (lv_at hl 1 rfl) ?_
  refine va_get (D := (dC, dI)) (ci := 4) (v := .ref (a 4)) (C := RX4) (T := TX4) (N := 1) hx hb hts (fun w h => List.mem_cons_of_mem _ (inWX4 w h)) hown hK hP 3 at_3 rfl 0 (by decide) (hts _ (List.mem_cons_of_mem _ kw_t1_32)) (fun _ h9 => h9) rfl dX4_put_6 ?_
  refine lv_iload_n hx hb dX4_put_9 rfl (lv_at hl 2 rfl) ?_
  refine lv_iload_n hx hb dX4_put_10 rfl (lv_at hl 4 rfl) ?_
  refine lv_if_eq (tgt := 26) hx hb dX4_put_11 (by decide) (fun c_2 => ?_) (fun c_2 => ?_)
  · refine lv_aload_n hx hb dX4_put_26 rfl (lv_at hl 1 rfl) ?_
    refine va_get (D := (dC, dI)) (ci := 4) (v := .ref (a 4)) (C := RX4) (T := TX4) (N := 1) hx hb hts (fun w h => List.mem_cons_of_mem _ (inWX4 w h)) hown hK hP 3 at_3 rfl 0 (by decide) (hts _ (List.mem_cons_of_mem _ kw_t1_32)) (fun _ h9 => h9) rfl dX4_put_27 ?_
    refine lv_iload_n hx hb dX4_put_30 rfl (lv_at hl 2 rfl) ?_
    refine va_iald hx hb hK hP 4 0 at_4 rfl (kt_inN ei0 (by omega) (by decide)) dX4_put_31 ?_
    refine lv_topi (fun t_3 et_3 => ?_)
    rw [ei0, nI_clamp (by omega)] at et_3
    refine lv_iload hx hb dX4_put_32 (lv_at hl 0 rfl) ?_
    refine lv_iconst (v := (-1)) hx hb dX4_put_34 (by decide) ?_
    refine lv_ixor hx hb dX4_put_35 ?_
    refine lv_topi (fun t_4 et_4 => ?_)
    refine lv_iand hx hb dX4_put_36 ?_
    refine lv_topi (fun t_5 et_5 => ?_)
    refine va_iast hx hb hK hP (mD_of hD hAc) hS 4 0 at_4 rfl (kt_inN ei0 (by omega) (by decide)) dX4_put_37 (fun H locs hP _ hS => ?_)
    obtain ⟨v_6, ev_6⟩ : ∃ z, z = mU v 4 (upd (v 4) ((p0 : Int32).toNatClampNeg) t_5) := ⟨_, rfl⟩
    have hP : va_P (dC, dI) vwCl (mW cI cZ cS cC cJ a v_6) H := by rw [ev_6]; exact mW_put hP (by omega) rfl
    have hI := hI.put ev_6 (by omega)
    have hq9 : ∀ w, w < 12 → p1 = nI w → ∀ y, y < 12 → (dnb t_5 y ↔ if y = w then p2 ≠ 0 else dnb (v 4 i0) y) := by
      intro w hw9 e9 y hy9
      rw [et_5, et_3, et_4, et_1, e9, dnb_andn (by omega) (by omega)]
      by_cases h9 : y = w
      · rw [if_pos h9]; exact ⟨fun z => absurd h9 z.1, fun z => absurd c_2 z⟩
      · rw [if_neg h9]; exact ⟨fun z => z.2, fun z => ⟨h9, z⟩⟩
    exact W.vret hx hb hr (fun t ht hW => ⟨⟨v_6, rfl, ⟨hI, ⟨t_5, by rw [ev_6, ei0, nI_clamp (by omega)], hq9⟩⟩, kt_heap ht hP⟩, hS.F ht⟩) hS.2.2 dX4_put_38
  · refine lv_aload_n hx hb dX4_put_14 rfl (lv_at hl 1 rfl) ?_
    refine va_get (D := (dC, dI)) (ci := 4) (v := .ref (a 4)) (C := RX4) (T := TX4) (N := 1) hx hb hts (fun w h => List.mem_cons_of_mem _ (inWX4 w h)) hown hK hP 3 at_3 rfl 0 (by decide) (hts _ (List.mem_cons_of_mem _ kw_t1_32)) (fun _ h9 => h9) rfl dX4_put_15 ?_
    refine lv_iload_n hx hb dX4_put_18 rfl (lv_at hl 2 rfl) ?_
    refine va_iald hx hb hK hP 4 0 at_4 rfl (kt_inN ei0 (by omega) (by decide)) dX4_put_19 ?_
    refine lv_topi (fun t_7 et_7 => ?_)
    rw [ei0, nI_clamp (by omega)] at et_7
    refine lv_iload hx hb dX4_put_20 (lv_at hl 0 rfl) ?_
    refine lv_ior hx hb dX4_put_22 ?_
    refine lv_topi (fun t_8 et_8 => ?_)
    refine lv_goto (tgt := 37) hx hb dX4_put_23 (by decide) ?_
    refine va_iast hx hb hK hP (mD_of hD hAc) hS 4 0 at_4 rfl (kt_inN ei0 (by omega) (by decide)) dX4_put_37 (fun H locs hP _ hS => ?_)
    obtain ⟨v_9, ev_9⟩ : ∃ z, z = mU v 4 (upd (v 4) ((p0 : Int32).toNatClampNeg) t_8) := ⟨_, rfl⟩
    have hP : va_P (dC, dI) vwCl (mW cI cZ cS cC cJ a v_9) H := by rw [ev_9]; exact mW_put hP (by omega) rfl
    have hI := hI.put ev_9 (by omega)
    have hq9 : ∀ w, w < 12 → p1 = nI w → ∀ y, y < 12 → (dnb t_8 y ↔ if y = w then p2 ≠ 0 else dnb (v 4 i0) y) := by
      intro w hw9 e9 y hy9
      rw [et_8, et_7, et_1, e9, dnb_or (by omega), dnb_bit (by omega) (by omega)]
      by_cases h9 : y = w
      · rw [if_pos h9]; exact ⟨fun _ => c_2, fun _ => Or.inr h9⟩
      · rw [if_neg h9]; exact ⟨fun z => z.resolve_right h9, Or.inl⟩
    exact W.vret hx hb hr (fun t ht hW => ⟨⟨v_9, rfl, ⟨hI, ⟨t_8, by rw [ev_9, ei0, nI_clamp (by omega)], hq9⟩⟩, kt_heap ht hP⟩, hS.F ht⟩) hS.2.2 dX4_put_38

set_option maxHeartbeats 4000000 in
set_option maxRecDepth 100000 in
theorem c_X4_isReached (l : Launch) (dC : Nat → ClassId) (dI : Nat → Nat → Nat) (cI cZ cS cC cJ : ClassId) (a : Nat → Nat) (v : Nat → Nat → Int32) (sz : Nat) (p0 p1 : Int32) (hD : mDD a) (hI : kI v v) (i0 : Nat) (hi0 : i0 < 12) (ei0 : p0 = nI i0) : Met l yX4_isReached (Cond.code yX4_isReached cX4_isReached 7 (some .boolean) :: WW) ({ frames := 1, cells := 0, slots := 0, locals := 30 }) (va_Pc [.ref (a 3), .int p0, .int p1] (fun U => U.heap.size = sz ∧ va_P (dC, dI) vwCl (mW cI cZ cS cC cJ a v) U.heap ∧ va_K (dC, dI) vwCl [(cI, .int), (cZ, .boolean), (cS, .object RX3), (cC, .object RX0), (cJ, .long)] U ∧ mN U)) (va_Qi (fun (r : Int32) (_u : Unit) => ((r = 0 ∨ r = 1) ∧ ∀ w, w < 12 → p1 = nI w → (r = 1 ↔ Rch (fun x z => dnb (v 4 x) z) i0 w))) (fun (_ : Unit) (t : State) => va_P (dC, dI) vwCl (mW cI cZ cS cC cJ a v) t.heap) (mA a sz)) 0 0 (mA a sz) := by
  refine Met.ofW (cc := cX4_isReached) (maxL := 7) (ret := (some .boolean)) (by decide) rfl ?_
  intro p e s m args below meth c s₁ B hml hv
  obtain ⟨rfl, hsz, hP, hK, hN⟩ := hv
  have hx := B.exec
  have hb := B.bytes
  have hr := B.returns
  have hts := atoms_spec (ws := Cond.code yX4_isReached cX4_isReached 7 (some .boolean) :: WW) B.pre
  have hown : s.vm.findClass RX4 = some m.cls := findClass_of_methodNamed B.named
  have hlocks := B.notSynchronized
  subst hsz
  have hAc : ∀ c, c < 81 → mA a s.heap.size (a c) := fun c h => Or.inl ⟨c, h, rfl⟩
  have hA : ∀ q : Nat, s.heap.size ≤ q → mA a s.heap.size q := fun q h => Or.inr h
  generalize hAe : mA a s.heap.size = A at hAc hA ⊢
  have hS : va_S A s.heap s.heap [] := va_S.rf
  have hl := lv_entry ([.ref (a 3), .int p0, .int p1]) (n := 7) (Nat.le_of_ble_eq_true rfl)
  rw [lg_entry_eq]
  generalize (lg_sl ([.ref (a 3), .int p0, .int p1]) ++ List.replicate (7 - (lg_sl ([.ref (a 3), .int p0, .int p1])).length) Slot.unset).toArray = ls at hl ⊢
  have hl : lv_has ls 7 [(0, .ref (a 3)), (1, .int p0), (2, .int p1)] := hl
  refine kt_absQ (fun Q hQ9 => ?_)
  refine lv_aload_n hx hb dX4_isReached_0 rfl (lv_at hl 0 rfl) ?_
  refine va_get (D := (dC, dI)) (ci := 4) (v := .ref (a 4)) (C := RX4) (T := TX4) (N := 1) hx hb hts (fun w h => List.mem_cons_of_mem _ (inWX4 w h)) hown hK hP 3 at_3 rfl 0 (by decide) (hts _ (List.mem_cons_of_mem _ kw_t1_32)) (fun _ h9 => h9) rfl dX4_isReached_1 ?_
  refine lv_iload_n hx hb dX4_isReached_4 rfl (lv_at hl 1 rfl) ?_
  refine va_iald hx hb hK hP 4 0 at_4 rfl (kt_inN ei0 (by omega) (by decide)) dX4_isReached_5 ?_
  refine lv_topi (fun t_1 et_1 => ?_)
  rw [ei0, nI_clamp (by omega)] at et_1
  refine lv_istore_n (lv' := [(3, .int t_1), (0, .ref (a 3)), (1, .int p0), (2, .int p1)]) hx hb dX4_isReached_6 rfl hl (by decide) rfl (fun ls hl => ?_)
  refine lv_iconst (v := 0) hx hb dX4_isReached_7 (by decide) ?_
  refine lv_istore (lv' := [(4, .int 0), (3, .int t_1), (0, .ref (a 3)), (1, .int p0), (2, .int p1)]) hx hb dX4_isReached_8 hl (by decide) rfl (fun ls hl => ?_)
  refine lv_iconst (v := 0) hx hb dX4_isReached_10 (by decide) ?_
  refine lv_istore (lv' := [(5, .int 0), (4, .int 0), (3, .int t_1), (0, .ref (a 3)), (1, .int p0), (2, .int p1)]) hx hb dX4_isReached_11 hl (by decide) rfl (fun ls hl => ?_)
  have key1 : ∀ (n i1 : Nat) (k1 : Int32) (y1_4 : Int32) (y1_3 : Int32) (H : Heap) (locs : List Loc) (ls : Array Slot), i1 ≤ 12 → 12 - i1 < n → k1 = nI i1 → va_P (dC, dI) vwCl (mW cI cZ cS cC cJ a v) H → va_S A s.heap H locs → lv_has ls 7 [(5, .int k1), (4, .int y1_4), (3, .int y1_3), (0, .ref (a 3)), (1, .int p0), (2, .int p1)] → (jO (v 4) i0 y1_4 y1_3 i1) → W p l e (headSpec (Cond.code yX4_isReached cX4_isReached 7 (some .boolean) :: WW) ({ frames := 1, cells := 0, slots := 0, locals := 30 })).room s m ([.ref (a 3), .int p0, .int p1] : List Value).toArray below meth c H locs 0 0 Q (F0 m 13 ls []) := by
    intro n
    induction n with
    | zero => intro i k y1_4 y1_3 H locs ls h1 h2; exact absurd h2 (by omega)
    | succ n ih1 =>
      intro i1 k1 y1_4 y1_3 H locs ls hi1 hin1 ek1 hP hS hl hJ1
      refine lv_iload hx hb dX4_isReached_13 (lv_at hl 0 rfl) ?_
      refine lv_bipush (v := 12) hx hb dX4_isReached_15 (by decide) ?_
      refine lv_icmp_ge (tgt := 75) hx hb dX4_isReached_17 (by decide) (fun c_2 => ?_) (fun c_2 => ?_)
      · refine lv_iload_n hx hb dX4_isReached_75 rfl (lv_at hl 2 rfl) ?_
        refine lv_iload_n hx hb dX4_isReached_76 rfl (lv_at hl 5 rfl) ?_
        have hFc := mA_free (a := a) hS hA hAc
        refine va_calli (va_runSN (As := [.int y1_3, .int p1]) (rest := []) ⟨hx, hb, hml, hown, hts⟩ (c_X5_isIn l dC dI cI cZ cS cC cJ a v H.size y1_3 p1 hD hI.self) ⟨va_cnB 2 hts (gI (fun w h => List.mem_cons_of_mem _ h) kw_t1_213) rfl rfl rfl hN.2.1 (hts _ (List.mem_cons_of_mem _ kw_t1_1)) (by decide +kernel) ⟨Nat.le_of_ble_eq_true rfl, Nat.le_of_ble_eq_true rfl⟩, (hts _ (List.mem_cons_of_mem _ kw_t1_212)), trivial⟩ ⟨fun av U g mk q => by obtain ⟨q0, q1, qP, qK, qN⟩ := q; exact ⟨q0, q1, qP, va_K.moved (u := U) (U := U.calling g mk av) (Vm.Alike.refl U.vm) qK, mN_same qN⟩, fun U hU hW => ⟨rfl, by rw [hU], by rw [hU]; exact hP, va_K.moved hW.alike hK, mN_warm hW hN⟩⟩ rfl rfl hl.1 rfl (lv_room (Nat.le_of_ble_eq_true rfl)) dX4_isReached_77 ⟨Nat.le_of_ble_eq_true rfl, Nat.le_of_ble_eq_true rfl⟩) hS (fun q _ h => hFc q h) hFc (fun r_3 _ t H locs ht hvm hw_3 hP _ _ hS => ?_)
        have hP := kt_heap2 ht hP
        clear ht hFc
        have hP : va_P (dC, dI) vwCl (mW cI cZ cS cC cJ a v) H := hP
        rcases hw_3.1 with hz9 | hz9
        · subst hz9
          rw [hQ9]
          exact W.zret (v := 0) (ty := .boolean) hx hb hr rfl (fun t ht hW => ⟨⟨0, (), rfl, ⟨Or.inl rfl, fun w hw9 e9 => (hw_3.2 w (by omega) e9).trans (jO.fin hJ1 (jO.cl hJ1 (by have z := c_2; rw [Int32.le_iff_toInt_le, ek1, nI_toInt (by omega), L12] at z; omega)) hw9)⟩, kt_heap ht hP⟩, hS.F ht⟩) hS.2.2 dX4_isReached_80
        · subst hz9
          rw [hQ9]
          exact W.zret (v := 1) (ty := .boolean) hx hb hr rfl (fun t ht hW => ⟨⟨1, (), rfl, ⟨Or.inr rfl, fun w hw9 e9 => (hw_3.2 w (by omega) e9).trans (jO.fin hJ1 (jO.cl hJ1 (by have z := c_2; rw [Int32.le_iff_toInt_le, ek1, nI_toInt (by omega), L12] at z; omega)) hw9)⟩, kt_heap ht hP⟩, hS.F ht⟩) hS.2.2 dX4_isReached_80
      · refine lv_iload_n hx hb dX4_isReached_20 rfl (lv_at hl 2 rfl) ?_
        refine lv_iload hx hb dX4_isReached_21 (lv_at hl 1 rfl) ?_
        refine lv_icmp_eq (tgt := 75) hx hb dX4_isReached_23 (by decide) (fun c_4 => ?_) (fun c_4 => ?_)
        · refine lv_iload_n hx hb dX4_isReached_75 rfl (lv_at hl 2 rfl) ?_
          refine lv_iload_n hx hb dX4_isReached_76 rfl (lv_at hl 5 rfl) ?_
          have hFc := mA_free (a := a) hS hA hAc
          refine va_calli (va_runSN (As := [.int y1_3, .int p1]) (rest := []) ⟨hx, hb, hml, hown, hts⟩ (c_X5_isIn l dC dI cI cZ cS cC cJ a v H.size y1_3 p1 hD hI.self) ⟨va_cnB 2 hts (gI (fun w h => List.mem_cons_of_mem _ h) kw_t1_213) rfl rfl rfl hN.2.1 (hts _ (List.mem_cons_of_mem _ kw_t1_1)) (by decide +kernel) ⟨Nat.le_of_ble_eq_true rfl, Nat.le_of_ble_eq_true rfl⟩, (hts _ (List.mem_cons_of_mem _ kw_t1_212)), trivial⟩ ⟨fun av U g mk q => by obtain ⟨q0, q1, qP, qK, qN⟩ := q; exact ⟨q0, q1, qP, va_K.moved (u := U) (U := U.calling g mk av) (Vm.Alike.refl U.vm) qK, mN_same qN⟩, fun U hU hW => ⟨rfl, by rw [hU], by rw [hU]; exact hP, va_K.moved hW.alike hK, mN_warm hW hN⟩⟩ rfl rfl hl.1 rfl (lv_room (Nat.le_of_ble_eq_true rfl)) dX4_isReached_77 ⟨Nat.le_of_ble_eq_true rfl, Nat.le_of_ble_eq_true rfl⟩) hS (fun q _ h => hFc q h) hFc (fun r_5 _ t H locs ht hvm hw_5 hP _ _ hS => ?_)
          have hP := kt_heap2 ht hP
          clear ht hFc
          have hP : va_P (dC, dI) vwCl (mW cI cZ cS cC cJ a v) H := hP
          rcases hw_5.1 with hz9 | hz9
          · subst hz9
            rw [hQ9]
            exact W.zret (v := 0) (ty := .boolean) hx hb hr rfl (fun t ht hW => ⟨⟨0, (), rfl, ⟨Or.inl rfl, fun w hw9 e9 => (hw_5.2 w (by omega) e9).trans (jO.fin hJ1 (hJ1.2.2.1 c_4) hw9)⟩, kt_heap ht hP⟩, hS.F ht⟩) hS.2.2 dX4_isReached_80
          · subst hz9
            rw [hQ9]
            exact W.zret (v := 1) (ty := .boolean) hx hb hr rfl (fun t ht hW => ⟨⟨1, (), rfl, ⟨Or.inr rfl, fun w hw9 e9 => (hw_5.2 w (by omega) e9).trans (jO.fin hJ1 (hJ1.2.2.1 c_4) hw9)⟩, kt_heap ht hP⟩, hS.F ht⟩) hS.2.2 dX4_isReached_80
        · refine lv_iload_n hx hb dX4_isReached_26 rfl (lv_at hl 2 rfl) ?_
          refine lv_istore (lv' := [(4, .int y1_3), (5, .int k1), (3, .int y1_3), (0, .ref (a 3)), (1, .int p0), (2, .int p1)]) hx hb dX4_isReached_27 hl (by decide) rfl (fun ls hl => ?_)
          refine lv_iconst (v := 0) hx hb dX4_isReached_29 (by decide) ?_
          refine lv_istore (lv' := [(6, .int 0), (4, .int y1_3), (5, .int k1), (3, .int y1_3), (0, .ref (a 3)), (1, .int p0), (2, .int p1)]) hx hb dX4_isReached_30 hl (by decide) rfl (fun ls hl => ?_)
          have hi_6 : i1 < 12 := kt_lt (N := 12) rfl (by decide) ek1 hi1 c_2
          have key2 : ∀ (n i2 : Nat) (k2 : Int32) (y2_3 : Int32) (H : Heap) (locs : List Loc) (ls : Array Slot), i2 ≤ 12 → 12 - i2 < n → k2 = nI i2 → va_P (dC, dI) vwCl (mW cI cZ cS cC cJ a v) H → va_S A s.heap H locs → lv_has ls 7 [(6, .int k2), (4, .int y1_3), (5, .int k1), (3, .int y2_3), (0, .ref (a 3)), (1, .int p0), (2, .int p1)] → (jI (v 4) y1_3 y2_3 i2) → W p l e (headSpec (Cond.code yX4_isReached cX4_isReached 7 (some .boolean) :: WW) ({ frames := 1, cells := 0, slots := 0, locals := 30 })).room s m ([.ref (a 3), .int p0, .int p1] : List Value).toArray below meth c H locs 0 0 Q (F0 m 32 ls []) := by
            intro n
            induction n with
            | zero => intro i k y2_3 H locs ls h1 h2; exact absurd h2 (by omega)
            | succ n ih2 =>
              intro i2 k2 y2_3 H locs ls hi2 hin2 ek2 hP hS hl hJ2
              refine lv_iload hx hb dX4_isReached_32 (lv_at hl 0 rfl) ?_
              refine lv_bipush (v := 12) hx hb dX4_isReached_34 (by decide) ?_
              refine lv_icmp_ge (tgt := 69) hx hb dX4_isReached_36 (by decide) (fun c_7 => ?_) (fun c_7 => ?_)
              · obtain ⟨t_8, et_8⟩ : ∃ y : Int32, y = k1 + 1 := ⟨_, rfl⟩
                refine lv_iinc (v := t_8) (lv' := [(5, .int t_8), (6, .int k2), (4, .int y1_3), (3, .int y2_3), (0, .ref (a 3)), (1, .int p0), (2, .int p1)]) hx hb dX4_isReached_69 hl (k := 2) rfl (by rw [et_8]; rfl) (by decide) rfl (fun ls hl => ?_)
                refine lv_goto (tgt := 13) hx hb dX4_isReached_72 (by decide) ?_
                exact ih1 (i1 + 1) t_8 y1_3 y2_3 _ _ _ (by omega) (by omega) (by rw [et_8, ek1]; exact nI_1 i1) hP hS (lv_sub hl [0, 2, 3, 4, 5, 6] rfl) (jI.done hJ1 hJ2 (by have z := c_7; rw [Int32.le_iff_toInt_le, ek2, nI_toInt (by omega), L12] at z; omega) hi2)
              · refine lv_iload_n hx hb dX4_isReached_39 rfl (lv_at hl 3 rfl) ?_
                refine lv_iload hx hb dX4_isReached_40 (lv_at hl 1 rfl) ?_
                refine lv_iload hx hb dX4_isReached_42 (lv_at hl 0 rfl) ?_
                have hFc := mA_free (a := a) hS hA hAc
                refine va_calli (va_runSN (As := [.int y1_3, .int k2]) (rest := [.int y2_3]) ⟨hx, hb, hml, hown, hts⟩ (c_X5_isIn l dC dI cI cZ cS cC cJ a v H.size y1_3 k2 hD hI.self) ⟨va_cnB 2 hts (gI (fun w h => List.mem_cons_of_mem _ h) kw_t1_213) rfl rfl rfl hN.2.1 (hts _ (List.mem_cons_of_mem _ kw_t1_1)) (by decide +kernel) ⟨Nat.le_of_ble_eq_true rfl, Nat.le_of_ble_eq_true rfl⟩, (hts _ (List.mem_cons_of_mem _ kw_t1_212)), trivial⟩ ⟨fun av U g mk q => by obtain ⟨q0, q1, qP, qK, qN⟩ := q; exact ⟨q0, q1, qP, va_K.moved (u := U) (U := U.calling g mk av) (Vm.Alike.refl U.vm) qK, mN_same qN⟩, fun U hU hW => ⟨rfl, by rw [hU], by rw [hU]; exact hP, va_K.moved hW.alike hK, mN_warm hW hN⟩⟩ rfl rfl hl.1 rfl (lv_room (Nat.le_of_ble_eq_true rfl)) dX4_isReached_44 ⟨Nat.le_of_ble_eq_true rfl, Nat.le_of_ble_eq_true rfl⟩) hS (fun q _ h => hFc q h) hFc (fun r_9 _ t H locs ht hvm hw_9 hP _ _ hS => ?_)
                have hP := kt_heap2 ht hP
                clear ht hFc
                have hP : va_P (dC, dI) vwCl (mW cI cZ cS cC cJ a v) H := hP
                refine lv_if_eq (tgt := 60) hx hb dX4_isReached_47 (by decide) (fun c_10 => ?_) (fun c_10 => ?_)
                · refine lv_iconst (v := 0) hx hb dX4_isReached_60 (by decide) ?_
                  refine lv_ior hx hb dX4_isReached_61 ?_
                  refine lv_topi (fun t_11 et_11 => ?_)
                  refine lv_istore_n (lv' := [(3, .int t_11), (6, .int k2), (4, .int y1_3), (5, .int k1), (0, .ref (a 3)), (1, .int p0), (2, .int p1)]) hx hb dX4_isReached_62 rfl hl (by decide) rfl (fun ls hl => ?_)
                  obtain ⟨t_12, et_12⟩ : ∃ y : Int32, y = k2 + 1 := ⟨_, rfl⟩
                  refine lv_iinc (v := t_12) (lv' := [(6, .int t_12), (3, .int t_11), (4, .int y1_3), (5, .int k1), (0, .ref (a 3)), (1, .int p0), (2, .int p1)]) hx hb dX4_isReached_63 hl (k := 1) rfl (by rw [et_12]; rfl) (by decide) rfl (fun ls hl => ?_)
                  refine lv_goto (tgt := 32) hx hb dX4_isReached_66 (by decide) ?_
                  have hi_13 : i2 < 12 := kt_lt (N := 12) rfl (by decide) ek2 hi2 c_7
                  exact ih2 (i2 + 1) t_12 t_11 _ _ _ (by omega) (by omega) (by rw [et_12, ek2]; exact nI_1 i2) hP hS (lv_sub hl [0, 2, 3, 1, 4, 5, 6] rfl) (jI.no hJ2 (fun z => absurd ((hw_9.2 i2 (by omega) ek2).mpr z) (by rw [c_10]; decide)) et_11)
                · refine lv_aload_n hx hb dX4_isReached_50 rfl (lv_at hl 4 rfl) ?_
                  refine va_get (D := (dC, dI)) (ci := 4) (v := .ref (a 4)) (C := RX4) (T := TX4) (N := 1) hx hb hts (fun w h => List.mem_cons_of_mem _ (inWX4 w h)) hown hK hP 3 at_3 rfl 0 (by decide) (hts _ (List.mem_cons_of_mem _ kw_t1_32)) (fun _ h9 => h9) rfl dX4_isReached_51 ?_
                  refine lv_iload hx hb dX4_isReached_54 (lv_at hl 0 rfl) ?_
                  have hi_14 : i2 < 12 := kt_lt (N := 12) rfl (by decide) ek2 hi2 c_7
                  refine va_iald hx hb hK hP 4 0 at_4 rfl (kt_inN ek2 (by omega) (by decide)) dX4_isReached_56 ?_
                  refine lv_topi (fun t_15 et_15 => ?_)
                  rw [ek2, nI_clamp (by omega)] at et_15
                  refine lv_goto (tgt := 61) hx hb dX4_isReached_57 (by decide) ?_
                  refine lv_ior hx hb dX4_isReached_61 ?_
                  refine lv_topi (fun t_16 et_16 => ?_)
                  refine lv_istore_n (lv' := [(3, .int t_16), (6, .int k2), (4, .int y1_3), (5, .int k1), (0, .ref (a 3)), (1, .int p0), (2, .int p1)]) hx hb dX4_isReached_62 rfl hl (by decide) rfl (fun ls hl => ?_)
                  obtain ⟨t_17, et_17⟩ : ∃ y : Int32, y = k2 + 1 := ⟨_, rfl⟩
                  refine lv_iinc (v := t_17) (lv' := [(6, .int t_17), (3, .int t_16), (4, .int y1_3), (5, .int k1), (0, .ref (a 3)), (1, .int p0), (2, .int p1)]) hx hb dX4_isReached_63 hl (k := 1) rfl (by rw [et_17]; rfl) (by decide) rfl (fun ls hl => ?_)
                  refine lv_goto (tgt := 32) hx hb dX4_isReached_66 (by decide) ?_
                  exact ih2 (i2 + 1) t_17 t_16 _ _ _ (by omega) (by omega) (by rw [et_17, ek2]; exact nI_1 i2) hP hS (lv_sub hl [0, 2, 3, 1, 4, 5, 6] rfl) (jI.yes hJ2 ((hw_9.2 i2 (by omega) ek2).mp (hw_9.1.resolve_left c_10)) (by rw [et_16, et_15]))
          exact key2 (12 + 1) 0 0 y1_3 _ _ _ (Nat.zero_le _) (by omega) rfl hP hS (lv_sub hl [0, 1, 2, 3, 4, 5, 6] rfl) jI.init
  exact key1 (12 + 1) 0 0 0 t_1 _ _ _ (Nat.zero_le _) (by omega) rfl hP hS (lv_sub hl [0, 1, 2, 3, 4, 5] rfl) (by rw [et_1]; exact jO.init)
end
section
def smR (f : Nat → Int32) : Nat → Int
  | 0 => 0
  | n + 1 => smR f n + (f n).toInt
theorem smR_ge {f : Nat → Int32} {j : Nat} {y : Int32} : ∀ m, m ≤ j → smR (upd f j y) m = smR f m
  | 0, _ => rfl
  | m + 1, h => by
    have ih := smR_ge (f := f) (j := j) (y := y) m (by omega)
    have e : upd f j y m = f m := by simp [upd]; omega
    simp only [smR, ih, e]
theorem smR_upd {f : Nat → Int32} {j : Nat} {y : Int32} : ∀ m, j < m → smR (upd f j y) m = smR f m - (f j).toInt + y.toInt
  | 0, h => absurd h (by omega)
  | m + 1, h => by
    by_cases hj : j = m
    · subst hj
      have e : upd f j y j = y := by simp [upd]
      simp only [smR, smR_ge j (Nat.le_refl j), e]
      omega
    · have ih := smR_upd (f := f) (j := j) (y := y) m (by omega)
      have e : upd f j y m = f m := by simp [upd]; omega
      simp only [smR, ih, e]
      omega
theorem smR_le {f : Nat → Int32} {b : Int} : ∀ m : Nat, (∀ x, x < m → (f x).toInt ≤ b) → smR f m ≤ b * m
  | 0, _ => by simp [smR]
  | m + 1, h => by
    have ih := smR_le (f := f) (b := b) m (fun x hx => h x (by omega))
    have e := h m (by omega)
    simp only [smR]
    have : b * ((m + 1 : Nat) : Int) = b * m + b := by rw [Int.natCast_succ, Int.mul_add, Int.mul_one]
    omega
theorem smR_low {f : Nat → Int32} {j : Nat} (hj : j < 12) {b : Int} (h0 : 0 ≤ b) (h : ∀ x, x < 12 → (f x).toInt ≤ b) : smR f 12 - b * 12 ≤ (f j).toInt := by
  have h1 : smR (upd f j 0) 12 ≤ b * (12 : Nat) := smR_le 12 (fun x hx => by
    by_cases e : x = j
    · subst e; simp only [upd, if_true, L0]; exact h0
    · have : upd f j 0 x = f x := by simp [upd, e]
      rw [this]; exact h x hx)
  rw [smR_upd 12 hj, L0] at h1
  omega
def czR (f : Nat → Int32) : Nat → Nat
  | 0 => 0
  | n + 1 => czR f n + (if f n = 0 then 1 else 0)
theorem czR_ge {f : Nat → Int32} {j : Nat} {y : Int32} : ∀ m, m ≤ j → czR (upd f j y) m = czR f m
  | 0, _ => rfl
  | m + 1, h => by
    have ih := czR_ge (f := f) (j := j) (y := y) m (by omega)
    have e : upd f j y m = f m := by simp [upd]; omega
    simp only [czR, ih, e]
theorem czR_set {f : Nat → Int32} {j : Nat} {y : Int32} (hy : y ≠ 0) (hf : f j = 0) : ∀ m, j < m → czR (upd f j y) m + 1 = czR f m
  | 0, h => absurd h (by omega)
  | m + 1, h => by
    by_cases hj : j = m
    · subst hj
      have e : upd f j y j = y := by simp [upd]
      simp only [czR, czR_ge j (Nat.le_refl j), e, if_neg hy, if_pos hf]
    · have ih := czR_set (f := f) (y := y) hy hf m (by omega)
      have e : upd f j y m = f m := by simp [upd]; omega
      simp only [czR, e]
      omega
def cnR (f : Nat → Int32) : Nat → Nat
  | 0 => 0
  | n + 1 => cnR f n + (if f n = 0 then 0 else 1)
theorem cnR_ge {f : Nat → Int32} {j : Nat} {y : Int32} : ∀ m, m ≤ j → cnR (upd f j y) m = cnR f m
  | 0, _ => rfl
  | m + 1, h => by
    have ih := cnR_ge (f := f) (j := j) (y := y) m (by omega)
    have e : upd f j y m = f m := by simp [upd]; omega
    simp only [cnR, ih, e]
theorem cnR_set {f : Nat → Int32} {j : Nat} {y : Int32} : ∀ m, cnR (upd f j y) m ≤ cnR f m + 1
  | 0 => by simp [cnR]
  | m + 1 => by
    by_cases hj : j = m
    · subst hj
      simp only [cnR, cnR_ge j (Nat.le_refl j)]
      split <;> split <;> omega
    · have ih := cnR_set (f := f) (j := j) (y := y) m
      have e : upd f j y m = f m := by simp [upd]; omega
      simp only [cnR, e]
      omega
theorem cnR_all {f : Nat → Int32} {k : Nat} : ∀ m, k ≤ m → (∀ x, x < k → f x ≠ 0) → k ≤ cnR f m
  | 0, h, _ => h
  | m + 1, h, hf => by
    by_cases hk : k ≤ m
    · have ih := cnR_all (f := f) m hk hf
      simp only [cnR]
      omega
    · obtain rfl : k = m + 1 := by omega
      have : ∀ j, j ≤ m + 1 → j ≤ cnR f j := by
        intro j
        induction j with
        | zero => intro _; exact Nat.zero_le _
        | succ j ih =>
          intro hj
          have := ih (by omega)
          simp only [cnR, if_neg (hf j (by omega))]
          omega
      exact this _ (Nat.le_refl _)
theorem cnR_zero {f : Nat → Int32} : ∀ m, (∀ x, x < m → f x = 0) → cnR f m = 0
  | 0, _ => rfl
  | m + 1, h => by
    have ih := cnR_zero (f := f) m (fun x hx => h x (by omega))
    simp only [cnR, ih, if_pos (h m (by omega))]
def bd (x : Int32) : Int := if x = 0 then 0 else if x = 4 then 16 else 10
theorem bd_le (x : Int32) : 0 ≤ bd x ∧ bd x ≤ 16 := by
  unfold bd
  split
  · omega
  · split <;> omega
def rN (sc : Int32) (nd : Nat → Int32) : Prop := (∀ x y, x < 12 → y < 12 → nd (12 * x + y) ≠ 0 → (x : Int) < sc.toInt ∧ (y : Int) < sc.toInt) ∧ ∃ r : Nat → Nat, ∀ x y, x < 12 → y < 12 → nd (12 * x + y) ≠ 0 → r y < r x
def hC (nd : Nat → Int32) (p : Nat) (sn : Nat → Int32) (x y : Nat) : Prop := nd (12 * x + y) ≠ 0 → (x = p ∨ sn x ≠ 0) → sn y ≠ 0
theorem rN.mono {sc sc' : Int32} {nd : Nat → Int32} (h : rN sc nd) (hs : sc.toInt ≤ sc'.toInt) : rN sc' nd := ⟨fun x y hx hy hn => by have := h.1 x y hx hy hn; omega, h.2⟩
theorem rN.del {sc : Int32} {nd : Nat → Int32} (h : rN sc nd) (j : Nat) : rN sc (upd nd j 0) := by
  have e : ∀ z, upd nd j 0 z ≠ 0 → nd z ≠ 0 := fun z hz => by
    by_cases c : z = j
    · subst c; simp [upd] at hz
    · simpa [upd, c] using hz
  obtain ⟨h1, r, h2⟩ := h
  exact ⟨fun x y hx hy hn => h1 x y hx hy (e _ hn), r, fun x y hx hy hn => h2 x y hx hy (e _ hn)⟩
/-- the greatest rank below twelve -/
theorem rk_bound (r : Nat → Nat) : ∀ m, ∃ M, ∀ x, x < m → r x < M
  | 0 => ⟨0, fun x hx => absurd hx (by omega)⟩
  | m + 1 => by
    obtain ⟨M, hM⟩ := rk_bound r m
    refine ⟨M + r m + 1, fun x hx => ?_⟩
    by_cases h : x = m
    · subst h; omega
    · have := hM x (by omega); omega
theorem rN.add {sc : Int32} {nd sn : Nat → Int32} {i o : Nat} {y : Int32} (h : rN sc nd) (hi : (i : Int) < sc.toInt) (ho : (o : Int) < sc.toInt) (h12 : sc.toInt ≤ 12) (hne : i ≠ o) (hcl : ∀ x z : Nat, (x : Int) < sc.toInt → (z : Int) < sc.toInt → hC nd o sn x z) (hz : sn i = 0) : rN sc (upd nd (12 * i + o) y) := by
  obtain ⟨h1, r, h2⟩ := h
  have e : ∀ x z, x < 12 → z < 12 → upd nd (12 * i + o) y (12 * x + z) ≠ 0 → (x = i ∧ z = o) ∨ nd (12 * x + z) ≠ 0 := fun x z hx hz hn => by
    by_cases c : 12 * x + z = 12 * i + o
    · left; omega
    · right; simpa [upd, c] using hn
  refine ⟨fun x z hx hz hn => ?_, ?_⟩
  · rcases e x z hx hz hn with ⟨rfl, rfl⟩ | hn
    · exact ⟨hi, ho⟩
    · exact h1 x z hx hz hn
  · obtain ⟨M, hM⟩ := rk_bound r 12
    refine ⟨fun x => if x = o ∨ sn x ≠ 0 then r x else r x + M, fun x z hx hz9 hn => ?_⟩
    rcases e x z hx hz9 hn with ⟨rfl, rfl⟩ | hn
    · have c1 : ¬ (x = z ∨ sn x ≠ 0) := by rintro (c | c); exact hne c; exact c hz
      have := hM z hz9
      simp only [if_neg c1, true_or, if_true]
      omega
    · have hb := h1 x z hx hz9 hn
      have hr := h2 x z hx hz9 hn
      by_cases c : x = o ∨ sn x ≠ 0
      · have : sn z ≠ 0 := hcl x z hb.1 hb.2 hn c
        have c2 : z = o ∨ sn z ≠ 0 := Or.inr this
        simp only [if_pos c, if_pos c2]
        exact hr
      · simp only [if_neg c]
        split <;> omega
/-- one that may be placed next -/
theorem plan_ex {sc : Int32} {nd f : Nat → Int32} (h : rN sc nd) (h12 : sc.toInt ≤ 12) {k : Nat} (hc : cnR f 12 ≤ k) (hk : (k : Int) < sc.toInt) : ∃ x : Nat, (x : Int) < sc.toInt ∧ f x = 0 ∧ ∀ y : Nat, (y : Int) < sc.toInt → nd (12 * x + y) ≠ 0 → f y ≠ 0 := by
  obtain ⟨-, r, h2⟩ := h
  have h0 : ∃ x : Nat, (x : Int) < sc.toInt ∧ f x = 0 := by
    refine Classical.byContradiction fun hno => ?_
    have hall : ∀ x, x < k + 1 → f x ≠ 0 := fun x hx hf => hno ⟨x, by omega, hf⟩
    have := cnR_all (f := f) 12 (by omega) hall
    omega
  have key : ∀ n (x : Nat), r x < n → (x : Int) < sc.toInt → f x = 0 → ∃ x : Nat, (x : Int) < sc.toInt ∧ f x = 0 ∧ ∀ y : Nat, (y : Int) < sc.toInt → nd (12 * x + y) ≠ 0 → f y ≠ 0 := by
    intro n
    induction n with
    | zero => intro x hx; exact absurd hx (by omega)
    | succ n ih =>
      intro x hx hs hf
      refine Classical.byContradiction fun hno => ?_
      have : ∀ y : Nat, (y : Int) < sc.toInt → nd (12 * x + y) ≠ 0 → f y ≠ 0 := fun y hy hn hf2 => hno (ih y (by have := h2 x y (by omega) (by omega) hn; omega) hy hf2)
      exact hno ⟨x, hs, hf, this⟩
  obtain ⟨x, hs, hf⟩ := h0
  exact key (r x + 1) x (by omega) hs hf
def rA (n : Nat) (v0 v : Nat → Nat → Int32) : Prop := (0 ≤ (v 45 2).toInt ∧ (v 45 2).toInt ≤ 12) ∧ (0 ≤ (v 45 4).toInt ∧ (v 45 4).toInt ≤ n) ∧ (∀ l, l < 600 → 0 ≤ (v 67 l).toInt ∧ (v 67 l).toInt < 16) ∧ (∀ l, l < 600 → 0 ≤ (v 68 l).toInt ∧ (v 68 l).toInt < 12) ∧ (∀ s, s < 12 → 0 ≤ (v 57 s).toInt) ∧ rN (v 45 2) (v 59) ∧ ∀ c, c < 45 → v c = v0 c
theorem rA.self0 {n : Nat} {v0 v : Nat → Nat → Int32} (h : rA n v0 v) : rA n v v := ⟨h.1, h.2.1, h.2.2.1, h.2.2.2.1, h.2.2.2.2.1, h.2.2.2.2.2.1, fun _ _ => rfl⟩
theorem rA.trans0 {n m : Nat} {v0 v u : Nat → Nat → Int32} (h : rA n v0 v) (h2 : rA m v u) : rA m v0 u := ⟨h2.1, h2.2.1, h2.2.2.1, h2.2.2.2.1, h2.2.2.2.2.1, h2.2.2.2.2.2.1, fun c hc => (h2.2.2.2.2.2.2 c hc).trans (h.2.2.2.2.2.2 c hc)⟩
theorem rA.up {n m : Nat} {v0 v : Nat → Nat → Int32} (h : rA n v0 v) (hm : n ≤ m) : rA m v0 v := ⟨h.1, ⟨h.2.1.1, by have := h.2.1.2; omega⟩, h.2.2⟩
theorem rA.put {n : Nat} {v0 v v1 : Nat → Nat → Int32} {c : Nat} {x : Nat → Int32} (h : rA n v0 v) (e : v1 = mU v c x) (hc : 45 < c ∧ c ≠ 57 ∧ c ≠ 59 ∧ c ≠ 67 ∧ c ≠ 68) : rA n v0 v1 := by
  subst e
  have e45 : mU v c x 45 = v 45 := mU_ne _ _ (by omega)
  have e57 : mU v c x 57 = v 57 := mU_ne _ _ (by omega)
  have e59 : mU v c x 59 = v 59 := mU_ne _ _ (by omega)
  have e67 : mU v c x 67 = v 67 := mU_ne _ _ (by omega)
  have e68 : mU v c x 68 = v 68 := mU_ne _ _ (by omega)
  unfold rA
  rw [e45, e57, e59, e67, e68]
  exact ⟨h.1, h.2.1, h.2.2.1, h.2.2.2.1, h.2.2.2.2.1, h.2.2.2.2.2.1, fun d hd => by rw [mU_ne _ _ (by omega)]; exact h.2.2.2.2.2.2 d hd⟩
theorem rA.putM {n m : Nat} {v0 v v1 : Nat → Nat → Int32} {k : Nat} {y : Int32} (h : rA n v0 v) (e : v1 = mU v 45 (upd (v 45) k y)) (h2 : 2 = k → (v 45 2).toInt ≤ y.toInt ∧ y.toInt ≤ 12) (h4 : if 4 = k then 0 ≤ y.toInt ∧ y.toInt ≤ m else n ≤ m) : rA m v0 v1 := by
  subst e
  have e57 : mU v 45 (upd (v 45) k y) 57 = v 57 := mU_ne _ _ (by omega)
  have e59 : mU v 45 (upd (v 45) k y) 59 = v 59 := mU_ne _ _ (by omega)
  have e67 : mU v 45 (upd (v 45) k y) 67 = v 67 := mU_ne _ _ (by omega)
  have e68 : mU v 45 (upd (v 45) k y) 68 = v 68 := mU_ne _ _ (by omega)
  obtain ⟨b1, b2, b3, b4, b5, b6, b7⟩ := h
  unfold rA
  rw [e57, e59, e67, e68, mU_self]
  have q2 : (v 45 2).toInt ≤ (upd (v 45) k y 2).toInt ∧ (upd (v 45) k y 2).toInt ≤ 12 := by
    by_cases z : 2 = k
    · subst z; simpa [upd] using h2 rfl
    · simp only [upd, if_neg z]; exact ⟨Int.le_refl _, b1.2⟩
  refine ⟨⟨by omega, q2.2⟩, ?_, b3, b4, b5, b6.mono q2.1, fun d hd => by rw [mU_ne _ _ (by omega)]; exact b7 d hd⟩
  by_cases z : 4 = k
  · rw [if_pos z] at h4; subst z; simpa [upd] using h4
  · rw [if_neg z] at h4; simp only [upd, if_neg z]; exact ⟨b2.1, by have := b2.2; omega⟩
theorem rA.put57 {n : Nat} {v0 v v1 : Nat → Nat → Int32} {k : Nat} {y : Int32} (h : rA n v0 v) (e : v1 = mU v 57 (upd (v 57) k y)) (hy : 0 ≤ y.toInt) : rA n v0 v1 := by
  subst e
  obtain ⟨b1, b2, b3, b4, b5, b6, b7⟩ := h
  refine ⟨b1, b2, b3, b4, fun s hs => ?_, b6, fun d hd => by rw [mU_ne _ _ (by omega)]; exact b7 d hd⟩
  rw [mU_self]
  by_cases z : s = k
  · simp only [upd, if_pos z]; exact hy
  · simp only [upd, if_neg z]; exact b5 s hs
theorem rA.put67 {n : Nat} {v0 v v1 : Nat → Nat → Int32} {k : Nat} {y : Int32} (h : rA n v0 v) (e : v1 = mU v 67 (upd (v 67) k y)) (hy : 0 ≤ y.toInt ∧ y.toInt < 16) : rA n v0 v1 := by
  subst e
  obtain ⟨b1, b2, b3, b4, b5, b6, b7⟩ := h
  refine ⟨b1, b2, fun s hs => ?_, b4, b5, b6, fun d hd => by rw [mU_ne _ _ (by omega)]; exact b7 d hd⟩
  rw [mU_self]
  by_cases z : s = k
  · simp only [upd, if_pos z]; exact hy
  · simp only [upd, if_neg z]; exact b3 s hs
theorem rA.put68 {n : Nat} {v0 v v1 : Nat → Nat → Int32} {k : Nat} {y : Int32} (h : rA n v0 v) (e : v1 = mU v 68 (upd (v 68) k y)) (hy : 0 ≤ y.toInt ∧ y.toInt < 12) : rA n v0 v1 := by
  subst e
  obtain ⟨b1, b2, b3, b4, b5, b6, b7⟩ := h
  refine ⟨b1, b2, b3, fun s hs => ?_, b5, b6, fun d hd => by rw [mU_ne _ _ (by omega)]; exact b7 d hd⟩
  rw [mU_self]
  by_cases z : s = k
  · simp only [upd, if_pos z]; exact hy
  · simp only [upd, if_neg z]; exact b4 s hs
theorem rA.put59 {n : Nat} {v0 v v1 : Nat → Nat → Int32} {x : Nat → Int32} (h : rA n v0 v) (e : v1 = mU v 59 x) (hx : rN (v 45 2) x) : rA n v0 v1 := by
  subst e
  obtain ⟨b1, b2, b3, b4, b5, b6, b7⟩ := h
  exact ⟨b1, b2, b3, b4, b5, by rw [mU_self]; exact hx, fun d hd => by rw [mU_ne _ _ (by omega)]; exact b7 d hd⟩
theorem rA.sc {n : Nat} {v0 v : Nat → Nat → Int32} (h : rA n v0 v) : 0 ≤ (v 45 2).toInt ∧ (v 45 2).toInt ≤ 12 := h.1
theorem rA.tn {n : Nat} {v0 v : Nat → Nat → Int32} (h : rA n v0 v) : 0 ≤ (v 45 4).toInt ∧ (v 45 4).toInt ≤ n := h.2.1
theorem rA.tw {n : Nat} {v0 v : Nat → Nat → Int32} (h : rA n v0 v) : ∀ l, l < 600 → 0 ≤ (v 67 l).toInt ∧ (v 67 l).toInt < 16 := h.2.2.1
theorem rA.os {n : Nat} {v0 v : Nat → Nat → Int32} (h : rA n v0 v) : ∀ l, l < 600 → 0 ≤ (v 68 l).toInt ∧ (v 68 l).toInt < 12 := h.2.2.2.1
theorem rA.to {n : Nat} {v0 v : Nat → Nat → Int32} (h : rA n v0 v) : ∀ s, s < 12 → 0 ≤ (v 57 s).toInt := h.2.2.2.2.1
theorem rA.nd {n : Nat} {v0 v : Nat → Nat → Int32} (h : rA n v0 v) : rN (v 45 2) (v 59) := h.2.2.2.2.2.1
theorem rA.fr {n : Nat} {v0 v : Nat → Nat → Int32} (h : rA n v0 v) : ∀ c, c < 45 → v c = v0 c := h.2.2.2.2.2.2
def rC (n : Nat) (v0 v : Nat → Nat → Int32) : Prop := rA n v0 v ∧ v 59 = v0 59
theorem rC.self0 {n : Nat} {v0 v : Nat → Nat → Int32} (h : rC n v0 v) : rC n v v := ⟨h.1.self0, rfl⟩
theorem rC.trans0 {n m : Nat} {v0 v u : Nat → Nat → Int32} (h : rC n v0 v) (h2 : rC m v u) : rC m v0 u := ⟨h.1.trans0 h2.1, h2.2.trans h.2⟩
theorem rC.up {n m : Nat} {v0 v : Nat → Nat → Int32} (h : rC n v0 v) (hm : n ≤ m) : rC m v0 v := ⟨h.1.up hm, h.2⟩
theorem rC.put {n : Nat} {v0 v v1 : Nat → Nat → Int32} {c : Nat} {x : Nat → Int32} (h : rC n v0 v) (e : v1 = mU v c x) (hc : 45 < c ∧ c ≠ 57 ∧ c ≠ 59 ∧ c ≠ 67 ∧ c ≠ 68) : rC n v0 v1 := ⟨h.1.put e hc, by rw [e, mU_ne _ _ (by omega)]; exact h.2⟩
theorem rC.putM {n m : Nat} {v0 v v1 : Nat → Nat → Int32} {k : Nat} {y : Int32} (h : rC n v0 v) (e : v1 = mU v 45 (upd (v 45) k y)) (h2 : 2 = k → (v 45 2).toInt ≤ y.toInt ∧ y.toInt ≤ 12) (h4 : if 4 = k then 0 ≤ y.toInt ∧ y.toInt ≤ m else n ≤ m) : rC m v0 v1 := ⟨h.1.putM e h2 h4, by rw [e, mU_ne _ _ (by decide)]; exact h.2⟩
theorem rC.put57 {n : Nat} {v0 v v1 : Nat → Nat → Int32} {k : Nat} {y : Int32} (h : rC n v0 v) (e : v1 = mU v 57 (upd (v 57) k y)) (hy : 0 ≤ y.toInt) : rC n v0 v1 := ⟨h.1.put57 e hy, by rw [e, mU_ne _ _ (by decide)]; exact h.2⟩
theorem rC.put67 {n : Nat} {v0 v v1 : Nat → Nat → Int32} {k : Nat} {y : Int32} (h : rC n v0 v) (e : v1 = mU v 67 (upd (v 67) k y)) (hy : 0 ≤ y.toInt ∧ y.toInt < 16) : rC n v0 v1 := ⟨h.1.put67 e hy, by rw [e, mU_ne _ _ (by decide)]; exact h.2⟩
theorem rC.put68 {n : Nat} {v0 v v1 : Nat → Nat → Int32} {k : Nat} {y : Int32} (h : rC n v0 v) (e : v1 = mU v 68 (upd (v 68) k y)) (hy : 0 ≤ y.toInt ∧ y.toInt < 12) : rC n v0 v1 := ⟨h.1.put68 e hy, by rw [e, mU_ne _ _ (by decide)]; exact h.2⟩
theorem rC.sc {n : Nat} {v0 v : Nat → Nat → Int32} (h : rC n v0 v) : 0 ≤ (v 45 2).toInt ∧ (v 45 2).toInt ≤ 12 := h.1.sc
theorem rC.tn {n : Nat} {v0 v : Nat → Nat → Int32} (h : rC n v0 v) : 0 ≤ (v 45 4).toInt ∧ (v 45 4).toInt ≤ n := h.1.tn
theorem rC.tw {n : Nat} {v0 v : Nat → Nat → Int32} (h : rC n v0 v) : ∀ l, l < 600 → 0 ≤ (v 67 l).toInt ∧ (v 67 l).toInt < 16 := h.1.tw
theorem rC.os {n : Nat} {v0 v : Nat → Nat → Int32} (h : rC n v0 v) : ∀ l, l < 600 → 0 ≤ (v 68 l).toInt ∧ (v 68 l).toInt < 12 := h.1.os
theorem rC.to {n : Nat} {v0 v : Nat → Nat → Int32} (h : rC n v0 v) : ∀ s, s < 12 → 0 ≤ (v 57 s).toInt := h.1.to
theorem rC.nd {n : Nat} {v0 v : Nat → Nat → Int32} (h : rC n v0 v) : rN (v 45 2) (v 59) := h.1.nd
theorem rC.fr {n : Nat} {v0 v : Nat → Nat → Int32} (h : rC n v0 v) : ∀ c, c < 45 → v c = v0 c := h.1.fr
def rX (v0 v : Nat → Nat → Int32) : Prop := v 45 1 = v0 45 1 ∧ v 45 2 = v0 45 2 ∧ v 60 = v0 60
def rB (n : Nat) (v0 v : Nat → Nat → Int32) : Prop := rC n v0 v ∧ rX v0 v
theorem rB.toC {n : Nat} {v0 v : Nat → Nat → Int32} (h : rB n v0 v) : rC n v0 v := h.1
theorem rB.sc {n : Nat} {v0 v : Nat → Nat → Int32} (h : rB n v0 v) : 0 ≤ (v 45 2).toInt ∧ (v 45 2).toInt ≤ 12 := h.1.sc
theorem rB.tn {n : Nat} {v0 v : Nat → Nat → Int32} (h : rB n v0 v) : 0 ≤ (v 45 4).toInt ∧ (v 45 4).toInt ≤ n := h.1.tn
theorem rB.tw {n : Nat} {v0 v : Nat → Nat → Int32} (h : rB n v0 v) : ∀ l, l < 600 → 0 ≤ (v 67 l).toInt ∧ (v 67 l).toInt < 16 := h.1.tw
theorem rB.os {n : Nat} {v0 v : Nat → Nat → Int32} (h : rB n v0 v) : ∀ l, l < 600 → 0 ≤ (v 68 l).toInt ∧ (v 68 l).toInt < 12 := h.1.os
theorem rB.to {n : Nat} {v0 v : Nat → Nat → Int32} (h : rB n v0 v) : ∀ s, s < 12 → 0 ≤ (v 57 s).toInt := h.1.to
theorem rB.nd {n : Nat} {v0 v : Nat → Nat → Int32} (h : rB n v0 v) : rN (v 45 2) (v 59) := h.1.nd
theorem rB.fr {n : Nat} {v0 v : Nat → Nat → Int32} (h : rB n v0 v) : ∀ c, c < 45 → v c = v0 c := h.1.fr
theorem rA.self {n : Nat} {v0 v : Nat → Nat → Int32} (h : rA n v0 v) : rB n v v := ⟨⟨h.self0, rfl⟩, rfl, rfl, rfl⟩
theorem rB.toA {n : Nat} {v0 v : Nat → Nat → Int32} (h : rB n v0 v) : rA n v0 v := h.1.1
theorem rC.self {n : Nat} {v0 v : Nat → Nat → Int32} (h : rC n v0 v) : rB n v v := ⟨h.self0, rfl, rfl, rfl⟩
theorem rB.self {n : Nat} {v0 v : Nat → Nat → Int32} (h : rB n v0 v) : rB n v v := h.1.self
theorem rC.trans {n m : Nat} {v0 v u : Nat → Nat → Int32} (h : rC n v0 v) (h2 : rB m v u) : rC m v0 u := h.trans0 h2.1
theorem rB.trans {n m : Nat} {v0 v u : Nat → Nat → Int32} (h : rB n v0 v) (h2 : rB m v u) : rB m v0 u := ⟨h.1.trans0 h2.1, h2.2.1.trans h.2.1, h2.2.2.1.trans h.2.2.1, h2.2.2.2.trans h.2.2.2⟩
theorem rB.up {n m : Nat} {v0 v : Nat → Nat → Int32} (h : rB n v0 v) (hm : n ≤ m) : rB m v0 v := ⟨h.1.up hm, h.2⟩
theorem rB.put {n : Nat} {v0 v v1 : Nat → Nat → Int32} {c : Nat} {x : Nat → Int32} (h : rB n v0 v) (e : v1 = mU v c x) (hc : 45 < c ∧ c ≠ 57 ∧ c ≠ 59 ∧ c ≠ 67 ∧ c ≠ 68 ∧ c ≠ 60) : rB n v0 v1 := by
  refine ⟨h.1.put e ⟨hc.1, hc.2.1, hc.2.2.1, hc.2.2.2.1, hc.2.2.2.2.1⟩, ?_⟩
  subst e
  rw [rX, mU_ne (d := 45) _ _ (by omega), mU_ne (d := 60) _ _ (by omega)]
  exact h.2
theorem rB.putM {n m : Nat} {v0 v v1 : Nat → Nat → Int32} {k : Nat} {y : Int32} (h : rB n v0 v) (e : v1 = mU v 45 (upd (v 45) k y)) (h12 : 1 ≠ k ∧ 2 ≠ k) (h4 : if 4 = k then 0 ≤ y.toInt ∧ y.toInt ≤ m else n ≤ m) : rB m v0 v1 := by
  refine ⟨h.1.putM e (fun z => absurd z h12.2) h4, ?_⟩
  subst e
  rw [rX, mU_self, mU_ne (d := 60) _ _ (by decide)]
  simp only [upd, if_neg h12.1, if_neg h12.2]
  exact h.2
theorem rB.putO {n : Nat} {v0 v v1 : Nat → Nat → Int32} {k : Nat} {y : Int32} (h : rB n v0 v) (e : v1 = mU v 45 (upd (v 45) k y)) (hk : 1 ≠ k ∧ 2 ≠ k ∧ 4 ≠ k) : rB n v0 v1 := h.putM e ⟨hk.1, hk.2.1⟩ (by rw [if_neg hk.2.2]; exact Nat.le_refl _)
theorem rB.put57 {n : Nat} {v0 v v1 : Nat → Nat → Int32} {k : Nat} {y : Int32} (h : rB n v0 v) (e : v1 = mU v 57 (upd (v 57) k y)) (hy : 0 ≤ y.toInt) : rB n v0 v1 := by
  refine ⟨h.1.put57 e hy, ?_⟩
  subst e
  rw [rX, mU_ne (d := 45) _ _ (by decide), mU_ne (d := 60) _ _ (by decide)]
  exact h.2
theorem rB.put67 {n : Nat} {v0 v v1 : Nat → Nat → Int32} {k : Nat} {y : Int32} (h : rB n v0 v) (e : v1 = mU v 67 (upd (v 67) k y)) (hy : 0 ≤ y.toInt ∧ y.toInt < 16) : rB n v0 v1 := by
  refine ⟨h.1.put67 e hy, ?_⟩
  subst e
  rw [rX, mU_ne (d := 45) _ _ (by decide), mU_ne (d := 60) _ _ (by decide)]
  exact h.2
theorem rB.put68 {n : Nat} {v0 v v1 : Nat → Nat → Int32} {k : Nat} {y : Int32} (h : rB n v0 v) (e : v1 = mU v 68 (upd (v 68) k y)) (hy : 0 ≤ y.toInt ∧ y.toInt < 12) : rB n v0 v1 := by
  refine ⟨h.1.put68 e hy, ?_⟩
  subst e
  rw [rX, mU_ne (d := 45) _ _ (by decide), mU_ne (d := 60) _ _ (by decide)]
  exact h.2
theorem rA.putO {n : Nat} {v0 v v1 : Nat → Nat → Int32} {k : Nat} {y : Int32} (h : rA n v0 v) (e : v1 = mU v 45 (upd (v 45) k y)) (hk : 2 ≠ k ∧ 4 ≠ k) : rA n v0 v1 := h.putM e (fun z => absurd z hk.1) (by rw [if_neg hk.2]; exact Nat.le_refl _)
theorem rC.putO {n : Nat} {v0 v v1 : Nat → Nat → Int32} {k : Nat} {y : Int32} (h : rC n v0 v) (e : v1 = mU v 45 (upd (v 45) k y)) (hk : 2 ≠ k ∧ 4 ≠ k) : rC n v0 v1 := h.putM e (fun z => absurd z hk.1) (by rw [if_neg hk.2]; exact Nat.le_refl _)
/-- the letters: their number is the sum of the open ones, these are bounded -/
def rQ (v : Nat → Nat → Int32) (B : Nat → Int) : Prop := (v 45 3).toInt = smR (v 56) 12 ∧ 0 ≤ (v 45 3).toInt ∧ ∀ s, s < 12 → (v 56 s).toInt ≤ B s
def rL (v : Nat → Nat → Int32) : Prop := rQ v (fun s => bd (v 52 s))
theorem rQ.put {v v1 : Nat → Nat → Int32} {B : Nat → Int} {c : Nat} {x : Nat → Int32} (h : rQ v B) (e : v1 = mU v c x) (hc : c ≠ 45 ∧ c ≠ 56) : rQ v1 B := by
  subst e
  unfold rQ
  rw [mU_ne (d := 45) _ _ (by omega), mU_ne (d := 56) _ _ (by omega)]
  exact h
theorem rQ.putM {v v1 : Nat → Nat → Int32} {B : Nat → Int} {k : Nat} {y : Int32} (h : rQ v B) (e : v1 = mU v 45 (upd (v 45) k y)) (hk : 3 ≠ k) : rQ v1 B := by
  subst e
  unfold rQ
  rw [mU_self, mU_ne (d := 56) _ _ (by omega)]
  have : upd (v 45) k y 3 = v 45 3 := by simp [upd, hk]
  rw [this]
  exact h
theorem rL.put {v v1 : Nat → Nat → Int32} {c : Nat} {x : Nat → Int32} (h : rL v) (e : v1 = mU v c x) (hc : c ≠ 45 ∧ c ≠ 56 ∧ c ≠ 52) : rL v1 := by
  have := rQ.put h e ⟨hc.1, hc.2.1⟩
  unfold rL
  rw [e, mU_ne (d := 52) _ _ (by omega), ← e]
  exact this
theorem rL.putM {v v1 : Nat → Nat → Int32} {k : Nat} {y : Int32} (h : rL v) (e : v1 = mU v 45 (upd (v 45) k y)) (hk : 3 ≠ k) : rL v1 := by
  have := rQ.putM h e hk
  unfold rL
  rw [e, mU_ne (d := 52) _ _ (by omega), ← e]
  exact this
theorem rQ.mono {v : Nat → Nat → Int32} {B B' : Nat → Int} (h : rQ v B) (hB : ∀ s, s < 12 → B s ≤ B' s) : rQ v B' := ⟨h.1, h.2.1, fun s hs => Int.le_trans (h.2.2 s hs) (hB s hs)⟩
theorem rQ.le {v : Nat → Nat → Int32} {B : Nat → Int} (h : rQ v B) {b : Int} (hB : ∀ s, s < 12 → B s ≤ b) : (v 45 3).toInt ≤ b * 12 := by
  rw [h.1]
  exact smR_le 12 (fun x hx => Int.le_trans (h.2.2 x hx) (hB x hx))
theorem kt_mad {c k j t u : Int32} {C i i2 : Nat} (hc : c = nI C) (ek : k = nI i) (ej : j = nI i2) (e1 : t = c * k) (e2 : u = t + j) : u = nI (C * i + i2) := by
  rw [e2, e1, hc, ek, ej, ← nI_add]
  congr 1
  exact (Int32.ofNat_mul C i).symm
theorem kt_addI {x y : Int32} (hx : -1000000 ≤ x.toInt) (hx2 : x.toInt ≤ 1000000) (hy : y = x + 1) : y.toInt = x.toInt + 1 := by
  rw [hy, Int32.toInt_add, L1]
  exact Int.bmod_eq_of_le (by omega) (by omega)
theorem kt_subI {x y : Int32} (hx : -1000000 ≤ x.toInt) (hx2 : x.toInt ≤ 1000000) (hy : y = x - 1) : y.toInt = x.toInt - 1 := by
  rw [hy, Int32.toInt_sub, L1]
  exact Int.bmod_eq_of_le (by omega) (by omega)
def rk (q x : Int32) : Nat := if q = 0 then (if x = 0 then 0 else if x = 4 then 1 else if x = 3 then 2 else if x = 2 then 3 else 4) else (if x = 0 then 0 else if x = 2 then 1 else if x = 4 then 2 else 3)
theorem rk_lt {q x r : Int32} (h0 : x ≠ 0) (h : (x = 1 ∧ q ≠ 0 ∧ r = 4) ∨ (x = 1 ∧ q = 0 ∧ r = 2) ∨ (x = 2 ∧ r = 0) ∨ (x = 2 ∧ q = 0 ∧ r = 3) ∨ (x = 3 ∧ r = 4) ∨ (x = 4 ∧ q ≠ 0 ∧ r = 2) ∨ (x = 4 ∧ r = 0) ∨ ((x.toInt < 1 ∨ 4 < x.toInt) ∧ r = 2)) : rk q r < rk q x := by
  unfold rk
  rcases h with ⟨rfl, hq, rfl⟩ | ⟨rfl, rfl, rfl⟩ | ⟨rfl, rfl⟩ | ⟨rfl, rfl, rfl⟩ | ⟨rfl, rfl⟩ | ⟨rfl, hq, rfl⟩ | ⟨rfl, rfl⟩ | ⟨hx, rfl⟩
  · rw [if_neg hq, if_neg hq]; decide
  · decide
  · by_cases hq : q = 0
    · rw [if_pos hq, if_pos hq]; decide
    · rw [if_neg hq, if_neg hq]; decide
  · decide
  · by_cases hq : q = 0
    · rw [if_pos hq, if_pos hq]; decide
    · rw [if_neg hq, if_neg hq]; decide
  · rw [if_neg hq, if_neg hq]; decide
  · by_cases hq : q = 0
    · rw [if_pos hq, if_pos hq]; decide
    · rw [if_neg hq, if_neg hq]; decide
  · have n2 : x ≠ 2 := by rintro rfl; exact absurd hx (by decide)
    have n3 : x ≠ 3 := by rintro rfl; exact absurd hx (by decide)
    have n4 : x ≠ 4 := by rintro rfl; exact absurd hx (by decide)
    by_cases hq : q = 0
    · rw [if_pos hq, if_pos hq, if_neg h0, if_neg n4, if_neg n3, if_neg n2]; decide
    · rw [if_neg hq, if_neg hq, if_neg h0, if_neg n2, if_neg n4]; decide
end
section
theorem rQ.write {v v1 v2 : Nat → Nat → Int32} {B : Nat → Int} {i : Nat} {y z : Int32} (h : rQ v B) (hb : ∀ x, x < 12 → B x ≤ 40) (hi : i < 12) (e1 : v1 = mU v 45 (upd (v 45) 3 y)) (hy : y = v 45 3 + 1) (e2 : v2 = mU v1 56 (upd (v1 56) i z)) (hz : z = v1 56 i + 1) : rQ v2 (fun x => if x = i then B x + 1 else B x) := by
  have e56 : v1 56 = v 56 := by rw [e1]; exact mU_ne _ _ (by decide)
  rw [e56] at hz e2
  have h45 : v2 45 3 = y := by
    rw [e2, mU_ne _ _ (by decide), e1, mU_self]
    simp [upd]
  have h56 : v2 56 = upd (v 56) i z := by rw [e2, mU_self]
  have hle := h.le hb
  have hall : ∀ x, x < 12 → (v 56 x).toInt ≤ 40 := fun x hx => Int.le_trans (h.2.2 x hx) (hb x hx)
  have hlow := smR_low (f := v 56) hi (b := 40) (by decide) hall
  have hup := hall i hi
  have hs := h.1
  have h0 := h.2.1
  have ty := kt_addI (x := v 45 3) (by omega) (by omega) hy
  have tz := kt_addI (x := v 56 i) (by omega) (by omega) hz
  refine ⟨?_, ?_, fun x hx => ?_⟩
  · rw [h45, h56, smR_upd 12 hi]
    omega
  · rw [h45]
    omega
  · rw [h56]
    try dsimp only
    by_cases c : x = i
    · subst c
      have := h.2.2 x hx
      rw [if_pos rfl]
      simp only [upd, if_true]
      omega
    · rw [if_neg c]
      simp only [upd, if_neg c]
      exact h.2.2 x hx
theorem rQ.more {v : Nat → Nat → Int32} {F : Nat → Int} {i : Nat} {a b : Int} (h : rQ v (fun x => if x = i then a else F x)) (hab : a ≤ b) : rQ v (fun x => if x = i then b else F x) := h.mono (fun x _ => by
  try dsimp only
  by_cases c : x = i
  · rw [if_pos c, if_pos c]; exact hab
  · rw [if_neg c, if_neg c]; exact Int.le_refl _)
theorem rQ.inc {v : Nat → Nat → Int32} {F : Nat → Int} {i : Nat} {a : Int} (h : rQ v (fun x => if x = i then (if x = i then a else F x) + 1 else (if x = i then a else F x))) : rQ v (fun x => if x = i then a + 1 else F x) := h.mono (fun x _ => by
  try dsimp only
  by_cases c : x = i
  · rw [if_pos c, if_pos c, if_pos c]; exact Int.le_refl _
  · rw [if_neg c, if_neg c, if_neg c]; exact Int.le_refl _)
theorem rQ.step {v v1 : Nat → Nat → Int32} {i : Nat} {o : Int} {y : Int32} (h : rQ v (fun x => if x = i then o else bd (v 52 x))) (e : v1 = mU v 52 (upd (v 52) i y)) : rQ v1 (fun x => if x = i then o else bd (v1 52 x)) := by
  have h1 := h.put e ⟨by decide, by decide⟩
  refine h1.mono (fun x _ => ?_)
  try dsimp only
  by_cases c : x = i
  · rw [if_pos c, if_pos c]; exact Int.le_refl _
  · rw [if_neg c, if_neg c, e, mU_self]
    simp only [upd, if_neg c]
    exact Int.le_refl _
theorem rL.of {v : Nat → Nat → Int32} {g : Nat → Int32} {i : Nat} {a : Int} (h : rQ v (fun x => if x = i then a else bd (g x))) (e : v 52 = g) (hy : a ≤ bd (g i)) : rL v := by
  unfold rL
  rw [e]
  refine h.mono (fun x _ => ?_)
  try dsimp only
  by_cases c : x = i
  · subst c; rw [if_pos rfl]; exact hy
  · rw [if_neg c]; exact Int.le_refl _
theorem bd_many {p : Int32} {B : Nat → Int32} {i : Nat} {o : Int} {k : Nat} (ho : o ≤ 10) (hk : k ≤ 10) : ∀ x, x < 12 → (if x = i then o + (k : Int) else bd (B x)) ≤ 40 := fun x _ => by
  split
  · omega
  · have := (bd_le (B x)).2; omega
theorem bd_ok {p : Int32} {o : Int} (ho : (o = 0 ∧ p ≠ 0) ∨ (o = 10 ∧ p = 4)) {k : Nat} (h : ((p = 1 ∨ p = 4 ∨ p = 5) ∧ k ≤ 6) ∨ (p = 2 ∧ k ≤ 10) ∨ k = 0) : o + (k : Int) ≤ bd p := by
  have b4 : bd 4 = 16 := by decide
  have bn : p ≠ 0 → p ≠ 4 → bd p = 10 := fun h1 h2 => by unfold bd; rw [if_neg h1, if_neg h2]
  rcases ho with ⟨rfl, h0⟩ | ⟨rfl, rfl⟩
  · by_cases h4 : p = 4
    · rw [h4, b4]; rcases h with ⟨-, h⟩ | ⟨-, h⟩ | h <;> omega
    · rw [bn h0 h4]; rcases h with ⟨-, h⟩ | ⟨-, h⟩ | h <;> omega
  · rw [b4]
    rcases h with ⟨-, h⟩ | ⟨h, -⟩ | h
    · omega
    · exact absurd h (by decide)
    · omega
theorem rL.zero {v : Nat → Nat → Int32} {i : Nat} (h : rL v) (ho : (v 56 i).toInt ≤ 0) : rQ v (fun x => if x = i then 0 else bd (v 52 x)) := ⟨h.1, h.2.1, fun x hx => by
  try dsimp only
  by_cases c : x = i
  · subst c; rw [if_pos rfl]; exact ho
  · rw [if_neg c]; exact h.2.2 x hx⟩
theorem rL.ten {v : Nat → Nat → Int32} {i : Nat} (h : rL v) (ho : bd (v 52 i) ≤ 10) : rQ v (fun x => if x = i then 10 else bd (v 52 x)) := ⟨h.1, h.2.1, fun x hx => by
  try dsimp only
  by_cases c : x = i
  · subst c; rw [if_pos rfl]; exact Int.le_trans (h.2.2 x hx) ho
  · rw [if_neg c]; exact h.2.2 x hx⟩
theorem rL.at0 {v : Nat → Nat → Int32} {i : Nat} (h : rL v) (hi : i < 12) (h0 : v 52 i = 0) : (v 56 i).toInt ≤ 0 := by
  have := h.2.2 i hi
  dsimp only at this
  rw [h0] at this
  exact this
theorem rL.step0 {v v1 : Nat → Nat → Int32} {i : Nat} (h : rL v) (ho : (v 56 i).toInt ≤ 0) (e : v1 = mU v 52 (upd (v 52) i 0)) : rL v1 := by
  have h1 := (h.zero ho).step e
  exact rL.of (g := v1 52) h1 rfl (bd_le _).1
theorem act_dec {v v1 : Nat → Nat → Int32} {i : Nat} {z : Int32} (e : v1 = mU v 56 (upd (v 56) i z)) (hz : z = v 56 i - 1) (hO : ∀ x, x < 12 → (v 56 x).toInt ≤ 16) (h0 : 0 ≤ smR (v 56) 12) (hi : i < 12) : smR (v1 56) 12 = smR (v 56) 12 - 1 ∧ ∀ x, x < 12 → (v1 56 x).toInt ≤ (v 56 x).toInt := by
  have hlow := smR_low (f := v 56) hi (b := 16) (by decide) hO
  have hup := hO i hi
  have tz := kt_subI (x := v 56 i) (by omega) (by omega) hz
  subst e
  rw [mU_self]
  refine ⟨by rw [smR_upd 12 hi]; omega, fun x hx => ?_⟩
  by_cases c : x = i
  · subst c; simp only [upd, if_true]; omega
  · simp only [upd, if_neg c]; exact Int.le_refl _
theorem kt_sub10 {t z : Int32} {m : Nat} (e : t = nI (m + 10)) (ez : z = t - 10) : z = nI m := by
  rw [ez, e, ← nI_add]
  show nI m + nI 10 - nI 10 = nI m
  rw [Int32.add_sub_cancel]
theorem kt_only {v u : Nat → Nat → Int32} {k : Nat} (h : ∀ c, c ≠ k → u c = v c) : u = mU v k (u k) := by
  funext c
  by_cases z : c = k
  · subst z; rw [mU_self]
  · rw [mU_ne _ _ z]; exact h c z
def rK (v : Nat → Nat → Int32) (kp : Int32) (i : Nat) : Prop := ∃ k : Nat, kp = nI k ∧ k ≤ i ∧ smR (v 56) 12 = k + ((v 45 3).toInt - i) ∧ (i : Int) ≤ (v 45 3).toInt ∧ (v 45 3).toInt ≤ 480 ∧ ∀ s, s < 12 → (v 56 s).toInt ≤ bd (v 52 s)
theorem rK.init {v : Nat → Nat → Int32} (h : rL v) : rK v 0 0 := ⟨0, rfl, Nat.le_refl _, by rw [← h.1]; simp, by simpa using h.2.1, Int.le_trans (rQ.le h (b := 16) (fun s _ => (bd_le _).2)) (by decide), h.2.2⟩
theorem rK.done {v v1 : Nat → Nat → Int32} {kp : Int32} {k i : Nat} (hkp : kp = nI k) (hk : k < 2 ^ 31) (hs : smR (v 56) 12 = k + ((v 45 3).toInt - i)) (hi : (v 45 3).toInt ≤ i) (hi2 : (i : Int) ≤ (v 45 3).toInt) (hb : ∀ s, s < 12 → (v 56 s).toInt ≤ bd (v 52 s)) (e : v1 = mU v 45 (upd (v 45) 3 kp)) : rL v1 := by
  have h45 : v1 45 3 = kp := by rw [e, mU_self]; simp [upd]
  have h56 : v1 56 = v 56 := by rw [e]; exact mU_ne _ _ (by decide)
  have h52 : v1 52 = v 52 := by rw [e]; exact mU_ne _ _ (by decide)
  unfold rL rQ
  rw [h45, h56, h52, hkp, nI_toInt hk]
  exact ⟨by omega, by omega, hb⟩
def hN78 (nd : Nat → Int32) (s : Nat) (f : Nat → Int32) : Prop := ∀ x, x < 12 → f x = 0 ∨ (f x = 1 ∧ Rch (fun a b => nd (12 * a + b) ≠ 0) s x)
theorem hN78.set {nd f : Nat → Int32} {s : Nat} (h : hN78 nd s f) (j : Nat) (hj : Rch (fun a b => nd (12 * a + b) ≠ 0) s j) : hN78 nd s (upd f j 1) := fun x hx => by
  by_cases c : x = j
  · subst c; right; exact ⟨by simp [upd], hj⟩
  · simp only [upd, if_neg c]; exact h x hx
theorem hS_rch {nd : Nat → Int32} {s a b : Nat} (ha : a < 12) (hb : b < 12) (he : nd (12 * a + b) ≠ 0) (h : a = s ∨ Rch (fun x z => nd (12 * x + z) ≠ 0) s a) : Rch (fun x z => nd (12 * x + z) ≠ 0) s b := by
  rcases h with rfl | h
  · exact Rch.base hb he
  · exact Rch.step ha hb h he
theorem hC_fin {sc : Int32} {nd sn : Nat → Int32} {s y : Nat} (hn : rN sc nd) (hs : s < 12) (hc : ∀ x z : Nat, (x : Int) < sc.toInt → (z : Int) < sc.toInt → hC nd s sn x z) (h : Rch (fun a b => nd (12 * a + b) ≠ 0) s y) : sn y ≠ 0 := h (fun y => sn y ≠ 0) (fun z hz e => hc s z (hn.1 s z hs hz e).1 (hn.1 s z hs hz e).2 e (Or.inl rfl)) (fun x z hx hz p e => hc x z (hn.1 x z hx hz e).1 (hn.1 x z hx hz e).2 e (Or.inr p))
theorem kt_nm1 {i : Nat} (h : i < 2 ^ 31) : ¬ nI i = -1 := fun e => by
  have := congrArg Int32.toInt e
  rw [nI_toInt h, Lm1] at this
  omega
end
section
set_option maxHeartbeats 4000000 in
set_option maxRecDepth 100000 in
theorem c_X6_isIn (l : Launch) (dC : Nat → ClassId) (dI : Nat → Nat → Nat) (cI cZ cS cC cJ : ClassId) (a : Nat → Nat) (v : Nat → Nat → Int32) (sz : Nat) (p0 p1 p2 : Int32) (hD : mDD a) (gn : Nat) (hn : gn < 200000) (hB : rB gn v v) : Met l yX6_isIn (Cond.code yX6_isIn cX6_isIn 3 (some .boolean) :: WW) ({ frames := 0, cells := 0, slots := 0, locals := 0 }) (va_Pc [.int p0, .int p1, .int p2] (fun U => U.heap.size = sz ∧ va_P (dC, dI) vwCl (mW cI cZ cS cC cJ a v) U.heap ∧ va_K (dC, dI) vwCl [(cI, .int), (cZ, .boolean), (cS, .object RX3), (cC, .object RX0), (cJ, .long)] U ∧ mN U)) (va_Qi (fun (r : Int32) (_u : Unit) => ((r = 1 ∧ ¬ p0 < p1 ∧ ¬ p2 < p0) ∨ (r = 0 ∧ (p0 < p1 ∨ p2 < p0)))) (fun (_ : Unit) (t : State) => va_P (dC, dI) vwCl (mW cI cZ cS cC cJ a v) t.heap) (mA a sz)) 0 0 (mA a sz) := by
  refine Met.ofW (cc := cX6_isIn) (maxL := 3) (ret := (some .boolean)) (by decide) rfl ?_
  intro p e s m args below meth c s₁ B hml hv
  obtain ⟨rfl, hsz, hP, hK, hN⟩ := hv
  have hx := B.exec
  have hb := B.bytes
  have hr := B.returns
  have hts := atoms_spec (ws := Cond.code yX6_isIn cX6_isIn 3 (some .boolean) :: WW) B.pre
  have hown : s.vm.findClass RX6 = some m.cls := findClass_of_methodNamed B.named
  have hlocks := B.notSynchronized
  subst hsz
  have hAc : ∀ c, c < 81 → mA a s.heap.size (a c) := fun c h => Or.inl ⟨c, h, rfl⟩
  have hA : ∀ q : Nat, s.heap.size ≤ q → mA a s.heap.size q := fun q h => Or.inr h
  generalize hAe : mA a s.heap.size = A at hAc hA ⊢
  have hS : va_S A s.heap s.heap [] := va_S.rf
  have hl := lv_entry ([.int p0, .int p1, .int p2]) (n := 3) (Nat.le_of_ble_eq_true rfl)
  rw [lg_entry_eq]
  generalize (lg_sl ([.int p0, .int p1, .int p2]) ++ List.replicate (3 - (lg_sl ([.int p0, .int p1, .int p2])).length) Slot.unset).toArray = ls at hl ⊢
  have hl : lv_has ls 3 [(0, .int p0), (1, .int p1), (2, .int p2)] := hl
  refine lv_iload_n hx hb dX6_isIn_0 rfl (lv_at hl 0 rfl) ?_
  refine lv_iload_n hx hb dX6_isIn_1 rfl (lv_at hl 1 rfl) ?_
  refine lv_icmp_lt (tgt := 14) hx hb dX6_isIn_2 (by decide) (fun c_1 => ?_) (fun c_1 => ?_)
  · refine lv_iconst (v := 0) hx hb dX6_isIn_14 (by decide) ?_
    exact W.zret (v := 0) (ty := .boolean) hx hb hr rfl (fun t ht hW => ⟨⟨0, (), rfl, (by simp [c_1]), kt_heap ht hP⟩, hS.F ht⟩) hS.2.2 dX6_isIn_15
  · refine lv_iload_n hx hb dX6_isIn_5 rfl (lv_at hl 0 rfl) ?_
    refine lv_iload_n hx hb dX6_isIn_6 rfl (lv_at hl 2 rfl) ?_
    refine lv_icmp_gt (tgt := 14) hx hb dX6_isIn_7 (by decide) (fun c_2 => ?_) (fun c_2 => ?_)
    · refine lv_iconst (v := 0) hx hb dX6_isIn_14 (by decide) ?_
      exact W.zret (v := 0) (ty := .boolean) hx hb hr rfl (fun t ht hW => ⟨⟨0, (), rfl, (by simp [c_1, c_2]), kt_heap ht hP⟩, hS.F ht⟩) hS.2.2 dX6_isIn_15
    · refine lv_iconst (v := 1) hx hb dX6_isIn_10 (by decide) ?_
      refine lv_goto (tgt := 15) hx hb dX6_isIn_11 (by decide) ?_
      exact W.zret (v := 1) (ty := .boolean) hx hb hr rfl (fun t ht hW => ⟨⟨1, (), rfl, (by simp [c_1, c_2]), kt_heap ht hP⟩, hS.F ht⟩) hS.2.2 dX6_isIn_15

set_option maxHeartbeats 4000000 in
set_option maxRecDepth 100000 in
theorem c_X6_isOf (l : Launch) (dC : Nat → ClassId) (dI : Nat → Nat → Nat) (cI cZ cS cC cJ : ClassId) (a : Nat → Nat) (v : Nat → Nat → Int32) (sz : Nat) (p0 p1 : Int32) (hD : mDD a) (gn : Nat) (hn : gn < 200000) (hB : rB gn v v) : Met l yX6_isOf (Cond.code yX6_isOf cX6_isOf 2 (some .boolean) :: WW) ({ frames := 0, cells := 0, slots := 0, locals := 0 }) (va_Pc [.int p0, .int p1] (fun U => U.heap.size = sz ∧ va_P (dC, dI) vwCl (mW cI cZ cS cC cJ a v) U.heap ∧ va_K (dC, dI) vwCl [(cI, .int), (cZ, .boolean), (cS, .object RX3), (cC, .object RX0), (cJ, .long)] U ∧ mN U)) (va_Qi (fun (r : Int32) (_u : Unit) => (r = 0 ∨ r = 1)) (fun (_ : Unit) (t : State) => va_P (dC, dI) vwCl (mW cI cZ cS cC cJ a v) t.heap) (mA a sz)) 0 0 (mA a sz) := by
  refine Met.ofW (cc := cX6_isOf) (maxL := 2) (ret := (some .boolean)) (by decide) rfl ?_
  intro p e s m args below meth c s₁ B hml hv
  obtain ⟨rfl, hsz, hP, hK, hN⟩ := hv
  have hx := B.exec
  have hb := B.bytes
  have hr := B.returns
  have hts := atoms_spec (ws := Cond.code yX6_isOf cX6_isOf 2 (some .boolean) :: WW) B.pre
  have hown : s.vm.findClass RX6 = some m.cls := findClass_of_methodNamed B.named
  have hlocks := B.notSynchronized
  subst hsz
  have hAc : ∀ c, c < 81 → mA a s.heap.size (a c) := fun c h => Or.inl ⟨c, h, rfl⟩
  have hA : ∀ q : Nat, s.heap.size ≤ q → mA a s.heap.size q := fun q h => Or.inr h
  generalize hAe : mA a s.heap.size = A at hAc hA ⊢
  have hS : va_S A s.heap s.heap [] := va_S.rf
  have hl := lv_entry ([.int p0, .int p1]) (n := 2) (Nat.le_of_ble_eq_true rfl)
  rw [lg_entry_eq]
  generalize (lg_sl ([.int p0, .int p1]) ++ List.replicate (2 - (lg_sl ([.int p0, .int p1])).length) Slot.unset).toArray = ls at hl ⊢
  have hl : lv_has ls 2 [(0, .int p0), (1, .int p1)] := hl
  refine lv_iload_n hx hb dX6_isOf_0 rfl (lv_at hl 0 rfl) ?_
  refine lv_iload_n hx hb dX6_isOf_1 rfl (lv_at hl 1 rfl) ?_
  refine lv_ishr hx hb dX6_isOf_2 ?_
  refine lv_topi (fun t_1 et_1 => ?_)
  refine lv_iconst (v := 1) hx hb dX6_isOf_3 (by decide) ?_
  refine lv_iand hx hb dX6_isOf_4 ?_
  refine lv_topi (fun t_2 et_2 => ?_)
  refine lv_iconst (v := 1) hx hb dX6_isOf_5 (by decide) ?_
  refine lv_icmp_ne (tgt := 13) hx hb dX6_isOf_6 (by decide) (fun c_3 => ?_) (fun c_3 => ?_)
  · refine lv_iconst (v := 0) hx hb dX6_isOf_13 (by decide) ?_
    exact W.zret (v := 0) (ty := .boolean) hx hb hr rfl (fun t ht hW => ⟨⟨0, (), rfl, (Or.inl rfl), kt_heap ht hP⟩, hS.F ht⟩) hS.2.2 dX6_isOf_14
  · refine lv_iconst (v := 1) hx hb dX6_isOf_9 (by decide) ?_
    refine lv_goto (tgt := 14) hx hb dX6_isOf_10 (by decide) ?_
    exact W.zret (v := 1) (ty := .boolean) hx hb hr rfl (fun t ht hW => ⟨⟨1, (), rfl, (Or.inr rfl), kt_heap ht hP⟩, hS.F ht⟩) hS.2.2 dX6_isOf_14

set_option maxHeartbeats 4000000 in
set_option maxRecDepth 100000 in
theorem c_X6_isSecret (l : Launch) (dC : Nat → ClassId) (dI : Nat → Nat → Nat) (cI cZ cS cC cJ : ClassId) (a : Nat → Nat) (v : Nat → Nat → Int32) (sz : Nat) (p0 : Int32) (hD : mDD a) (gn : Nat) (hn : gn < 200000) (hB : rB gn v v) : Met l yX6_isSecret (Cond.code yX6_isSecret cX6_isSecret 2 (some .boolean) :: WW) ({ frames := 0, cells := 0, slots := 0, locals := 0 }) (va_Pc [.ref (a 45), .int p0] (fun U => U.heap.size = sz ∧ va_P (dC, dI) vwCl (mW cI cZ cS cC cJ a v) U.heap ∧ va_K (dC, dI) vwCl [(cI, .int), (cZ, .boolean), (cS, .object RX3), (cC, .object RX0), (cJ, .long)] U ∧ mN U)) (va_Qi (fun (r : Int32) (_u : Unit) => ((r = 0 ∧ ¬ isS (v 45 2) p0) ∨ (r = 1 ∧ ∃ i : Nat, i < 12 ∧ p0 = nI i ∧ (i : Int) < (v 45 2).toInt))) (fun (_ : Unit) (t : State) => va_P (dC, dI) vwCl (mW cI cZ cS cC cJ a v) t.heap) (mA a sz)) 0 0 (mA a sz) := by
  refine Met.ofW (cc := cX6_isSecret) (maxL := 2) (ret := (some .boolean)) (by decide) rfl ?_
  intro p e s m args below meth c s₁ B hml hv
  obtain ⟨rfl, hsz, hP, hK, hN⟩ := hv
  have hx := B.exec
  have hb := B.bytes
  have hr := B.returns
  have hts := atoms_spec (ws := Cond.code yX6_isSecret cX6_isSecret 2 (some .boolean) :: WW) B.pre
  have hown : s.vm.findClass RX6 = some m.cls := findClass_of_methodNamed B.named
  have hlocks := B.notSynchronized
  subst hsz
  have hAc : ∀ c, c < 81 → mA a s.heap.size (a c) := fun c h => Or.inl ⟨c, h, rfl⟩
  have hA : ∀ q : Nat, s.heap.size ≤ q → mA a s.heap.size q := fun q h => Or.inr h
  generalize hAe : mA a s.heap.size = A at hAc hA ⊢
  have hS : va_S A s.heap s.heap [] := va_S.rf
  have hl := lv_entry ([.ref (a 45), .int p0]) (n := 2) (Nat.le_of_ble_eq_true rfl)
  rw [lg_entry_eq]
  generalize (lg_sl ([.ref (a 45), .int p0]) ++ List.replicate (2 - (lg_sl ([.ref (a 45), .int p0])).length) Slot.unset).toArray = ls at hl ⊢
  have hl : lv_has ls 2 [(0, .ref (a 45)), (1, .int p0)] := hl
  refine lv_iload_n hx hb dX6_isSecret_0 rfl (lv_at hl 1 rfl) ?_
  refine lv_if_lt (tgt := 16) hx hb dX6_isSecret_1 (by decide) (fun c_1 => ?_) (fun c_1 => ?_)
  · refine lv_iconst (v := 0) hx hb dX6_isSecret_16 (by decide) ?_
    exact W.zret (v := 0) (ty := .boolean) hx hb hr rfl (fun t ht hW => ⟨⟨0, (), rfl, (Or.inl ⟨rfl, fun z9 => by have z8 := z9.1; have z7 := z9.2; have z0 := c_1; (try simp only [Int32.lt_iff_toInt_lt, Int32.le_iff_toInt_le, ← Int32.toInt_inj, L0, L1, L2, L3, L4, L6, L9, L500, L5, L7, L10, L12, L15, L16, L20, L63, L1000, L1023, L2000, L10000, L100000, Lm1] at z0); omega⟩), kt_heap ht hP⟩, hS.F ht⟩) hS.2.2 dX6_isSecret_17
  · refine lv_iload_n hx hb dX6_isSecret_4 rfl (lv_at hl 1 rfl) ?_
    refine lv_aload_n hx hb dX6_isSecret_5 rfl (lv_at hl 0 rfl) ?_
    refine va_get (D := (dC, dI)) (ci := 6) (v := .int (v 45 2)) (C := RX6) (T := TX6) (N := 43) hx hb hts (fun w h => List.mem_cons_of_mem _ (inWX6 w h)) hown hK hP 45 at_45 rfl 2 (by decide) (hts _ (List.mem_cons_of_mem _ kw_t3_43)) (fun _ h9 => h9) rfl dX6_isSecret_6 ?_
    refine lv_topi (fun t_2 et_2 => ?_)
    have hsc_2 : 0 ≤ t_2.toInt ∧ t_2.toInt ≤ 12 := by rw [et_2]; exact hB.sc
    refine lv_icmp_ge (tgt := 16) hx hb dX6_isSecret_9 (by decide) (fun c_3 => ?_) (fun c_3 => ?_)
    · refine lv_iconst (v := 0) hx hb dX6_isSecret_16 (by decide) ?_
      exact W.zret (v := 0) (ty := .boolean) hx hb hr rfl (fun t ht hW => ⟨⟨0, (), rfl, (Or.inl ⟨rfl, fun z9 => by have z8 := z9.1; have z7 := z9.2; rw [← et_2] at z7; have z0 := c_1; have z1 := c_3; have z2 := hsc_2; (try simp only [Int32.lt_iff_toInt_lt, Int32.le_iff_toInt_le, ← Int32.toInt_inj, L0, L1, L2, L3, L4, L6, L9, L500, L5, L7, L10, L12, L15, L16, L20, L63, L1000, L1023, L2000, L10000, L100000, Lm1] at z0 z1 z2); omega⟩), kt_heap ht hP⟩, hS.F ht⟩) hS.2.2 dX6_isSecret_17
    · refine lv_iconst (v := 1) hx hb dX6_isSecret_12 (by decide) ?_
      refine lv_goto (tgt := 17) hx hb dX6_isSecret_13 (by decide) ?_
      exact W.zret (v := 1) (ty := .boolean) hx hb hr rfl (fun t ht hW => ⟨⟨1, (), rfl, (Or.inr ⟨rfl, by obtain ⟨i, hi, ei⟩ := kt_idx (x := p0) (n := 12) (by have z0 := c_1; have z1 := c_3; have z2 := hsc_2; (try simp only [Int32.lt_iff_toInt_lt, Int32.le_iff_toInt_le, ← Int32.toInt_inj, L0, L1, L2, L3, L4, L6, L9, L500, L5, L7, L10, L12, L15, L16, L20, L63, L1000, L1023, L2000, L10000, L100000, Lm1] at z0 z1 z2); omega) (by have z0 := c_1; have z1 := c_3; have z2 := hsc_2; (try simp only [Int32.lt_iff_toInt_lt, Int32.le_iff_toInt_le, ← Int32.toInt_inj, L0, L1, L2, L3, L4, L6, L9, L500, L5, L7, L10, L12, L15, L16, L20, L63, L1000, L1023, L2000, L10000, L100000, Lm1] at z0 z1 z2); omega); exact ⟨i, hi, ei, by rw [← et_2]; have z := nI_toInt (n := i) (by omega); rw [← ei] at z; have z0 := c_1; have z1 := c_3; have z2 := hsc_2; (try simp only [Int32.lt_iff_toInt_lt, Int32.le_iff_toInt_le, ← Int32.toInt_inj, L0, L1, L2, L3, L4, L6, L9, L500, L5, L7, L10, L12, L15, L16, L20, L63, L1000, L1023, L2000, L10000, L100000, Lm1] at z0 z1 z2); omega⟩⟩), kt_heap ht hP⟩, hS.F ht⟩) hS.2.2 dX6_isSecret_17

set_option maxHeartbeats 4000000 in
set_option maxRecDepth 100000 in
theorem c_X6_delay (l : Launch) (dC : Nat → ClassId) (dI : Nat → Nat → Nat) (cI cZ cS cC cJ : ClassId) (a : Nat → Nat) (v : Nat → Nat → Int32) (sz : Nat) (p0 p1 : Int32) (hD : mDD a) (gn : Nat) (hn : gn < 200000) (hB : rB gn v v) (hL : rL v) : Met l yX6_delay (Cond.code yX6_delay cX6_delay 3 (some .boolean) :: WW) ({ frames := 1, cells := 0, slots := 0, locals := 30 }) (va_Pc [.ref (a 45), .int p0, .int p1] (fun U => U.heap.size = sz ∧ va_P (dC, dI) vwCl (mW cI cZ cS cC cJ a v) U.heap ∧ va_K (dC, dI) vwCl [(cI, .int), (cZ, .boolean), (cS, .object RX3), (cC, .object RX0), (cJ, .long)] U ∧ mN U)) (va_Qi (fun (r : Int32) (u : Nat → Nat → Int32) => (rB gn v u) ∧ (rL u) ∧ (r = sp_delay p0 p1)) (fun (u : Nat → Nat → Int32) (t : State) => va_P (dC, dI) vwCl (mW cI cZ cS cC cJ a u) t.heap) (mA a sz)) 0 0 (mA a sz) := by
  refine Met.ofW (cc := cX6_delay) (maxL := 3) (ret := (some .boolean)) (by decide) rfl ?_
  intro p e s m args below meth c s₁ B hml hv
  obtain ⟨rfl, hsz, hP, hK, hN⟩ := hv
  have hx := B.exec
  have hb := B.bytes
  have hr := B.returns
  have hts := atoms_spec (ws := Cond.code yX6_delay cX6_delay 3 (some .boolean) :: WW) B.pre
  have hown : s.vm.findClass RX6 = some m.cls := findClass_of_methodNamed B.named
  have hlocks := B.notSynchronized
  subst hsz
  have hAc : ∀ c, c < 81 → mA a s.heap.size (a c) := fun c h => Or.inl ⟨c, h, rfl⟩
  have hA : ∀ q : Nat, s.heap.size ≤ q → mA a s.heap.size q := fun q h => Or.inr h
  generalize hAe : mA a s.heap.size = A at hAc hA ⊢
  have hS : va_S A s.heap s.heap [] := va_S.rf
  have hl := lv_entry ([.ref (a 45), .int p0, .int p1]) (n := 3) (Nat.le_of_ble_eq_true rfl)
  rw [lg_entry_eq]
  generalize (lg_sl ([.ref (a 45), .int p0, .int p1]) ++ List.replicate (3 - (lg_sl ([.ref (a 45), .int p0, .int p1])).length) Slot.unset).toArray = ls at hl ⊢
  have hl : lv_has ls 3 [(0, .ref (a 45)), (1, .int p0), (2, .int p1)] := hl
  refine lv_aload_n hx hb dX6_delay_0 rfl (lv_at hl 0 rfl) ?_
  refine lv_iconst (v := 0) hx hb dX6_delay_1 (by decide) ?_
  refine va_put (D := (dC, dI)) (ci := 6) (v := .int 0) (ty := .int) (C := RX6) (T := TX6) (N := 43) hx hb hts (fun w h => List.mem_cons_of_mem _ (inWX6 w h)) tyX6 tyX6_ok nmX6 hown hK hP (mD_of hD hAc) hS 45 at_45 rfl 0 (by decide) (hts _ (List.mem_cons_of_mem _ kw_t3_41)) (fun _ h9 => h9) rfl (by decide +kernel) rfl rfl (Nat.le_of_ble_eq_true rfl) dX6_delay_2 (fun H locs hP _ hS => ?_)
  obtain ⟨v_1, ev_1⟩ : ∃ z, z = mU v 45 (upd (v 45) 0 0) := ⟨_, rfl⟩
  have hP : va_P (dC, dI) vwCl (mW cI cZ cS cC cJ a v_1) H := by rw [ev_1]; exact mW_put hP (by omega) rfl
  have hB := hB.putO ev_1 (by decide)
  have hL := hL.putM ev_1 (by decide)
  refine lv_iload_n hx hb dX6_delay_5 rfl (lv_at hl 1 rfl) ?_
  refine lv_iconst (v := 0) hx hb dX6_delay_6 (by decide) ?_
  refine lv_bipush (v := 15) hx hb dX6_delay_7 (by decide) ?_
  have hFc := mA_free (a := a) hS hA hAc
  refine va_calli (va_runS (As := [.int p0, .int 0, .int 15]) (rest := []) ⟨hx, hb, hml, hown, hts⟩ (c_X6_isIn l dC dI cI cZ cS cC cJ a v_1 H.size p0 0 15 hD gn (by omega) hB.self) (va_cwS 3 hts (gS (fun w h => List.mem_cons_of_mem _ h) kw_t3_176 kw_t3_177 kw_t1_7 kw_t3_178) rfl rfl rfl (by decide +kernel) ⟨Nat.le_of_ble_eq_true rfl, Nat.le_of_ble_eq_true rfl⟩) ⟨fun av U g mk q => by obtain ⟨q0, q1, qP, qK, qN⟩ := q; exact ⟨q0, q1, qP, va_K.moved (u := U) (U := U.calling g mk av) (Vm.Alike.refl U.vm) qK, mN_same qN⟩, fun U hU hW => ⟨rfl, by rw [hU], by rw [hU]; exact hP, va_K.moved hW.alike hK, mN_warm hW hN⟩⟩ rfl rfl hl.1 rfl (lv_room (Nat.le_of_ble_eq_true rfl)) dX6_delay_9 ⟨Nat.le_of_ble_eq_true rfl, Nat.le_of_ble_eq_true rfl⟩) hS (fun q _ h => hFc q h) hFc (fun r_2 _ t H locs ht hvm hw_2 hP _ _ hS => ?_)
  have hP := kt_heap2 ht hP
  clear ht hFc
  have hP : va_P (dC, dI) vwCl (mW cI cZ cS cC cJ a v_1) H := hP
  rcases hw_2 with ⟨hz_3, c_3a, c_3b⟩ | ⟨hz_3, c_3d⟩
  · subst hz_3
    refine lv_if_eq (tgt := 25) hx hb dX6_delay_12 (by decide) (fun c_4 => absurd c_4 (by decide)) (fun c_4 => ?_)
    refine lv_iload_n hx hb dX6_delay_15 rfl (lv_at hl 2 rfl) ?_
    refine lv_iconst (v := 0) hx hb dX6_delay_16 (by decide) ?_
    refine lv_bipush (v := 20) hx hb dX6_delay_17 (by decide) ?_
    have hFc := mA_free (a := a) hS hA hAc
    refine va_calli (va_runS (As := [.int p1, .int 0, .int 20]) (rest := []) ⟨hx, hb, hml, hown, hts⟩ (c_X6_isIn l dC dI cI cZ cS cC cJ a v_1 H.size p1 0 20 hD gn (by omega) hB.self) (va_cwS 3 hts (gS (fun w h => List.mem_cons_of_mem _ h) kw_t3_176 kw_t3_177 kw_t1_7 kw_t3_178) rfl rfl rfl (by decide +kernel) ⟨Nat.le_of_ble_eq_true rfl, Nat.le_of_ble_eq_true rfl⟩) ⟨fun av U g mk q => by obtain ⟨q0, q1, qP, qK, qN⟩ := q; exact ⟨q0, q1, qP, va_K.moved (u := U) (U := U.calling g mk av) (Vm.Alike.refl U.vm) qK, mN_same qN⟩, fun U hU hW => ⟨rfl, by rw [hU], by rw [hU]; exact hP, va_K.moved hW.alike hK, mN_warm hW hN⟩⟩ rfl rfl hl.1 rfl (lv_room (Nat.le_of_ble_eq_true rfl)) dX6_delay_19 ⟨Nat.le_of_ble_eq_true rfl, Nat.le_of_ble_eq_true rfl⟩) hS (fun q _ h => hFc q h) hFc (fun r_5 _ t H locs ht hvm hw_5 hP _ _ hS => ?_)
    have hP := kt_heap2 ht hP
    clear ht hFc
    have hP : va_P (dC, dI) vwCl (mW cI cZ cS cC cJ a v_1) H := hP
    rcases hw_5 with ⟨hz_6, c_6a, c_6b⟩ | ⟨hz_6, c_6d⟩
    · subst hz_6
      refine lv_if_ne (tgt := 27) hx hb dX6_delay_22 (by decide) (fun c_7 => ?_) (fun c_7 => absurd c_7 (by decide))
      refine lv_aload_n hx hb dX6_delay_27 rfl (lv_at hl 0 rfl) ?_
      refine va_get (D := (dC, dI)) (ci := 6) (v := .ref (a 64)) (C := RX6) (T := TX6) (N := 43) hx hb hts (fun w h => List.mem_cons_of_mem _ (inWX6 w h)) hown hK hP 45 at_45 rfl 27 (by decide) (hts _ (List.mem_cons_of_mem _ kw_t3_68)) (fun _ h9 => h9) rfl dX6_delay_28 ?_
      refine lv_iload_n hx hb dX6_delay_31 rfl (lv_at hl 1 rfl) ?_
      refine lv_iload_n hx hb dX6_delay_32 rfl (lv_at hl 2 rfl) ?_
      obtain ⟨ix_9, hx_9, ex_9⟩ := kt_idx (x := p0) (n := 16) (by have z0 := c_3a; have z1 := c_3b; have z2 := c_6a; have z3 := c_6b; (try simp only [Int32.lt_iff_toInt_lt, Int32.le_iff_toInt_le, ← Int32.toInt_inj, L0, L1, L2, L3, L4, L6, L9, L500, L5, L7, L10, L12, L15, L16, L20, L63, L1000, L1023, L2000, L10000, L100000, Lm1] at z0 z1 z2 z3); omega) (by have z0 := c_3a; have z1 := c_3b; have z2 := c_6a; have z3 := c_6b; (try simp only [Int32.lt_iff_toInt_lt, Int32.le_iff_toInt_le, ← Int32.toInt_inj, L0, L1, L2, L3, L4, L6, L9, L500, L5, L7, L10, L12, L15, L16, L20, L63, L1000, L1023, L2000, L10000, L100000, Lm1] at z0 z1 z2 z3); omega)
      refine va_iast hx hb hK hP (mD_of hD hAc) hS 64 0 at_64 rfl (kt_inN ex_9 (by omega) (by decide)) dX6_delay_33 (fun H locs hP _ hS => ?_)
      obtain ⟨v_10, ev_10⟩ : ∃ z, z = mU v_1 64 (upd (v_1 64) ix_9 p1) := ⟨_, rfl⟩
      have hP : va_P (dC, dI) vwCl (mW cI cZ cS cC cJ a v_10) H := by rw [ev_10]; exact mW_put hP (by omega) (by rw [ex_9, nI_clamp (by omega)]; rfl)
      have hB := hB.put ev_10 (by decide)
      have hL := hL.put ev_10 (by decide)
      refine lv_iconst (v := 1) hx hb dX6_delay_34 (by decide) ?_
      exact W.zret (v := 1) (ty := .boolean) hx hb hr rfl (fun t ht hW => ⟨⟨1, v_10, rfl, ⟨hB, hL, (by unfold sp_delay; have z0 := c_3a; have z1 := c_3b; have z2 := c_6a; have z3 := c_6b; (try simp only [Int32.lt_iff_toInt_lt, Int32.le_iff_toInt_le, ← Int32.toInt_inj, L0, L1, L2, L3, L4, L6, L9, L500, L5, L7, L10, L12, L15, L16, L20, L63, L1000, L1023, L2000, L10000, L100000, Lm1] at z0 z1 z2 z3); rw [if_neg (by simp only [Int32.lt_iff_toInt_lt, Int32.le_iff_toInt_le, ← Int32.toInt_inj, L0, L1, L2, L3, L4, L6, L9, L500, L5, L7, L10, L12, L15, L16, L20, L63, L1000, L1023, L2000, L10000, L100000, Lm1]; omega)])⟩, kt_heap ht hP⟩, hS.F ht⟩) hS.2.2 dX6_delay_35
    · subst hz_6
      refine lv_if_ne (tgt := 27) hx hb dX6_delay_22 (by decide) (fun c_11 => absurd (by decide) c_11) (fun c_11 => ?_)
      refine lv_iconst (v := 0) hx hb dX6_delay_25 (by decide) ?_
      exact W.zret (v := 0) (ty := .boolean) hx hb hr rfl (fun t ht hW => ⟨⟨0, v_1, rfl, ⟨hB, hL, (by unfold sp_delay; have z0 := c_3a; have z1 := c_3b; have z2 := c_6d; (try simp only [Int32.lt_iff_toInt_lt, Int32.le_iff_toInt_le, ← Int32.toInt_inj, L0, L1, L2, L3, L4, L6, L9, L500, L5, L7, L10, L12, L15, L16, L20, L63, L1000, L1023, L2000, L10000, L100000, Lm1] at z0 z1 z2); rw [if_pos (by simp only [Int32.lt_iff_toInt_lt, Int32.le_iff_toInt_le, ← Int32.toInt_inj, L0, L1, L2, L3, L4, L6, L9, L500, L5, L7, L10, L12, L15, L16, L20, L63, L1000, L1023, L2000, L10000, L100000, Lm1]; omega)])⟩, kt_heap ht hP⟩, hS.F ht⟩) hS.2.2 dX6_delay_26
  · subst hz_3
    refine lv_if_eq (tgt := 25) hx hb dX6_delay_12 (by decide) (fun c_12 => ?_) (fun c_12 => absurd (by decide) c_12)
    refine lv_iconst (v := 0) hx hb dX6_delay_25 (by decide) ?_
    exact W.zret (v := 0) (ty := .boolean) hx hb hr rfl (fun t ht hW => ⟨⟨0, v_1, rfl, ⟨hB, hL, (by unfold sp_delay; have z0 := c_3d; (try simp only [Int32.lt_iff_toInt_lt, Int32.le_iff_toInt_le, ← Int32.toInt_inj, L0, L1, L2, L3, L4, L6, L9, L500, L5, L7, L10, L12, L15, L16, L20, L63, L1000, L1023, L2000, L10000, L100000, Lm1] at z0); rw [if_pos (by simp only [Int32.lt_iff_toInt_lt, Int32.le_iff_toInt_le, ← Int32.toInt_inj, L0, L1, L2, L3, L4, L6, L9, L500, L5, L7, L10, L12, L15, L16, L20, L63, L1000, L1023, L2000, L10000, L100000, Lm1]; omega)])⟩, kt_heap ht hP⟩, hS.F ht⟩) hS.2.2 dX6_delay_26

set_option maxHeartbeats 4000000 in
set_option maxRecDepth 100000 in
theorem c_X6_quiet (l : Launch) (dC : Nat → ClassId) (dI : Nat → Nat → Nat) (cI cZ cS cC cJ : ClassId) (a : Nat → Nat) (v : Nat → Nat → Int32) (sz : Nat) (p0 p1 : Int32) (hD : mDD a) (gn : Nat) (hn : gn < 200000) (hB : rB gn v v) (hL : rL v) : Met l yX6_quiet (Cond.code yX6_quiet cX6_quiet 3 (some .boolean) :: WW) ({ frames := 1, cells := 0, slots := 0, locals := 30 }) (va_Pc [.ref (a 45), .int p0, .int p1] (fun U => U.heap.size = sz ∧ va_P (dC, dI) vwCl (mW cI cZ cS cC cJ a v) U.heap ∧ va_K (dC, dI) vwCl [(cI, .int), (cZ, .boolean), (cS, .object RX3), (cC, .object RX0), (cJ, .long)] U ∧ mN U)) (va_Qi (fun (r : Int32) (u : Nat → Nat → Int32) => (rB gn v u) ∧ (rL u) ∧ (r = sp_quiet p0 p1)) (fun (u : Nat → Nat → Int32) (t : State) => va_P (dC, dI) vwCl (mW cI cZ cS cC cJ a u) t.heap) (mA a sz)) 0 0 (mA a sz) := by
  refine Met.ofW (cc := cX6_quiet) (maxL := 3) (ret := (some .boolean)) (by decide) rfl ?_
  intro p e s m args below meth c s₁ B hml hv
  obtain ⟨rfl, hsz, hP, hK, hN⟩ := hv
  have hx := B.exec
  have hb := B.bytes
  have hr := B.returns
  have hts := atoms_spec (ws := Cond.code yX6_quiet cX6_quiet 3 (some .boolean) :: WW) B.pre
  have hown : s.vm.findClass RX6 = some m.cls := findClass_of_methodNamed B.named
  have hlocks := B.notSynchronized
  subst hsz
  have hAc : ∀ c, c < 81 → mA a s.heap.size (a c) := fun c h => Or.inl ⟨c, h, rfl⟩
  have hA : ∀ q : Nat, s.heap.size ≤ q → mA a s.heap.size q := fun q h => Or.inr h
  generalize hAe : mA a s.heap.size = A at hAc hA ⊢
  have hS : va_S A s.heap s.heap [] := va_S.rf
  have hl := lv_entry ([.ref (a 45), .int p0, .int p1]) (n := 3) (Nat.le_of_ble_eq_true rfl)
  rw [lg_entry_eq]
  generalize (lg_sl ([.ref (a 45), .int p0, .int p1]) ++ List.replicate (3 - (lg_sl ([.ref (a 45), .int p0, .int p1])).length) Slot.unset).toArray = ls at hl ⊢
  have hl : lv_has ls 3 [(0, .ref (a 45)), (1, .int p0), (2, .int p1)] := hl
  refine lv_aload_n hx hb dX6_quiet_0 rfl (lv_at hl 0 rfl) ?_
  refine lv_iconst (v := 0) hx hb dX6_quiet_1 (by decide) ?_
  refine va_put (D := (dC, dI)) (ci := 6) (v := .int 0) (ty := .int) (C := RX6) (T := TX6) (N := 43) hx hb hts (fun w h => List.mem_cons_of_mem _ (inWX6 w h)) tyX6 tyX6_ok nmX6 hown hK hP (mD_of hD hAc) hS 45 at_45 rfl 0 (by decide) (hts _ (List.mem_cons_of_mem _ kw_t3_41)) (fun _ h9 => h9) rfl (by decide +kernel) rfl rfl (Nat.le_of_ble_eq_true rfl) dX6_quiet_2 (fun H locs hP _ hS => ?_)
  obtain ⟨v_1, ev_1⟩ : ∃ z, z = mU v 45 (upd (v 45) 0 0) := ⟨_, rfl⟩
  have hP : va_P (dC, dI) vwCl (mW cI cZ cS cC cJ a v_1) H := by rw [ev_1]; exact mW_put hP (by omega) rfl
  have hB := hB.putO ev_1 (by decide)
  have hL := hL.putM ev_1 (by decide)
  refine lv_iload_n hx hb dX6_quiet_5 rfl (lv_at hl 1 rfl) ?_
  refine lv_iconst (v := 0) hx hb dX6_quiet_6 (by decide) ?_
  refine lv_sipush (v := 1000) hx hb dX6_quiet_7 (by decide) ?_
  have hFc := mA_free (a := a) hS hA hAc
  refine va_calli (va_runS (As := [.int p0, .int 0, .int 1000]) (rest := []) ⟨hx, hb, hml, hown, hts⟩ (c_X6_isIn l dC dI cI cZ cS cC cJ a v_1 H.size p0 0 1000 hD gn (by omega) hB.self) (va_cwS 3 hts (gS (fun w h => List.mem_cons_of_mem _ h) kw_t3_176 kw_t3_177 kw_t1_7 kw_t3_178) rfl rfl rfl (by decide +kernel) ⟨Nat.le_of_ble_eq_true rfl, Nat.le_of_ble_eq_true rfl⟩) ⟨fun av U g mk q => by obtain ⟨q0, q1, qP, qK, qN⟩ := q; exact ⟨q0, q1, qP, va_K.moved (u := U) (U := U.calling g mk av) (Vm.Alike.refl U.vm) qK, mN_same qN⟩, fun U hU hW => ⟨rfl, by rw [hU], by rw [hU]; exact hP, va_K.moved hW.alike hK, mN_warm hW hN⟩⟩ rfl rfl hl.1 rfl (lv_room (Nat.le_of_ble_eq_true rfl)) dX6_quiet_10 ⟨Nat.le_of_ble_eq_true rfl, Nat.le_of_ble_eq_true rfl⟩) hS (fun q _ h => hFc q h) hFc (fun r_2 _ t H locs ht hvm hw_2 hP _ _ hS => ?_)
  have hP := kt_heap2 ht hP
  clear ht hFc
  have hP : va_P (dC, dI) vwCl (mW cI cZ cS cC cJ a v_1) H := hP
  rcases hw_2 with ⟨hz_3, c_3a, c_3b⟩ | ⟨hz_3, c_3d⟩
  · subst hz_3
    refine lv_if_eq (tgt := 27) hx hb dX6_quiet_13 (by decide) (fun c_4 => absurd c_4 (by decide)) (fun c_4 => ?_)
    refine lv_iload_n hx hb dX6_quiet_16 rfl (lv_at hl 2 rfl) ?_
    refine lv_iconst (v := 0) hx hb dX6_quiet_17 (by decide) ?_
    refine lv_sipush (v := 10000) hx hb dX6_quiet_18 (by decide) ?_
    have hFc := mA_free (a := a) hS hA hAc
    refine va_calli (va_runS (As := [.int p1, .int 0, .int 10000]) (rest := []) ⟨hx, hb, hml, hown, hts⟩ (c_X6_isIn l dC dI cI cZ cS cC cJ a v_1 H.size p1 0 10000 hD gn (by omega) hB.self) (va_cwS 3 hts (gS (fun w h => List.mem_cons_of_mem _ h) kw_t3_176 kw_t3_177 kw_t1_7 kw_t3_178) rfl rfl rfl (by decide +kernel) ⟨Nat.le_of_ble_eq_true rfl, Nat.le_of_ble_eq_true rfl⟩) ⟨fun av U g mk q => by obtain ⟨q0, q1, qP, qK, qN⟩ := q; exact ⟨q0, q1, qP, va_K.moved (u := U) (U := U.calling g mk av) (Vm.Alike.refl U.vm) qK, mN_same qN⟩, fun U hU hW => ⟨rfl, by rw [hU], by rw [hU]; exact hP, va_K.moved hW.alike hK, mN_warm hW hN⟩⟩ rfl rfl hl.1 rfl (lv_room (Nat.le_of_ble_eq_true rfl)) dX6_quiet_21 ⟨Nat.le_of_ble_eq_true rfl, Nat.le_of_ble_eq_true rfl⟩) hS (fun q _ h => hFc q h) hFc (fun r_5 _ t H locs ht hvm hw_5 hP _ _ hS => ?_)
    have hP := kt_heap2 ht hP
    clear ht hFc
    have hP : va_P (dC, dI) vwCl (mW cI cZ cS cC cJ a v_1) H := hP
    rcases hw_5 with ⟨hz_6, c_6a, c_6b⟩ | ⟨hz_6, c_6d⟩
    · subst hz_6
      refine lv_if_ne (tgt := 29) hx hb dX6_quiet_24 (by decide) (fun c_7 => ?_) (fun c_7 => absurd c_7 (by decide))
      refine lv_aload_n hx hb dX6_quiet_29 rfl (lv_at hl 0 rfl) ?_
      refine lv_iload_n hx hb dX6_quiet_30 rfl (lv_at hl 1 rfl) ?_
      refine va_put (D := (dC, dI)) (ci := 6) (v := .int p0) (ty := .int) (C := RX6) (T := TX6) (N := 43) hx hb hts (fun w h => List.mem_cons_of_mem _ (inWX6 w h)) tyX6 tyX6_ok nmX6 hown hK hP (mD_of hD hAc) hS 45 at_45 rfl 7 (by decide) (hts _ (List.mem_cons_of_mem _ kw_t3_48)) (fun _ h9 => h9) rfl (by decide +kernel) rfl rfl (Nat.le_of_ble_eq_true rfl) dX6_quiet_31 (fun H locs hP _ hS => ?_)
      obtain ⟨v_8, ev_8⟩ : ∃ z, z = mU v_1 45 (upd (v_1 45) 7 p0) := ⟨_, rfl⟩
      have hP : va_P (dC, dI) vwCl (mW cI cZ cS cC cJ a v_8) H := by rw [ev_8]; exact mW_put hP (by omega) rfl
      have hB := hB.putO ev_8 (by decide)
      have hL := hL.putM ev_8 (by decide)
      refine lv_aload_n hx hb dX6_quiet_34 rfl (lv_at hl 0 rfl) ?_
      refine lv_iload_n hx hb dX6_quiet_35 rfl (lv_at hl 2 rfl) ?_
      refine va_put (D := (dC, dI)) (ci := 6) (v := .int p1) (ty := .int) (C := RX6) (T := TX6) (N := 43) hx hb hts (fun w h => List.mem_cons_of_mem _ (inWX6 w h)) tyX6 tyX6_ok nmX6 hown hK hP (mD_of hD hAc) hS 45 at_45 rfl 8 (by decide) (hts _ (List.mem_cons_of_mem _ kw_t3_49)) (fun _ h9 => h9) rfl (by decide +kernel) rfl rfl (Nat.le_of_ble_eq_true rfl) dX6_quiet_36 (fun H locs hP _ hS => ?_)
      obtain ⟨v_9, ev_9⟩ : ∃ z, z = mU v_8 45 (upd (v_8 45) 8 p1) := ⟨_, rfl⟩
      have hP : va_P (dC, dI) vwCl (mW cI cZ cS cC cJ a v_9) H := by rw [ev_9]; exact mW_put hP (by omega) rfl
      have hB := hB.putO ev_9 (by decide)
      have hL := hL.putM ev_9 (by decide)
      refine lv_iconst (v := 1) hx hb dX6_quiet_39 (by decide) ?_
      exact W.zret (v := 1) (ty := .boolean) hx hb hr rfl (fun t ht hW => ⟨⟨1, v_9, rfl, ⟨hB, hL, (by unfold sp_quiet; have z0 := c_3a; have z1 := c_3b; have z2 := c_6a; have z3 := c_6b; (try simp only [Int32.lt_iff_toInt_lt, Int32.le_iff_toInt_le, ← Int32.toInt_inj, L0, L1, L2, L3, L4, L6, L9, L500, L5, L7, L10, L12, L15, L16, L20, L63, L1000, L1023, L2000, L10000, L100000, Lm1] at z0 z1 z2 z3); rw [if_neg (by simp only [Int32.lt_iff_toInt_lt, Int32.le_iff_toInt_le, ← Int32.toInt_inj, L0, L1, L2, L3, L4, L6, L9, L500, L5, L7, L10, L12, L15, L16, L20, L63, L1000, L1023, L2000, L10000, L100000, Lm1]; omega)])⟩, kt_heap ht hP⟩, hS.F ht⟩) hS.2.2 dX6_quiet_40
    · subst hz_6
      refine lv_if_ne (tgt := 29) hx hb dX6_quiet_24 (by decide) (fun c_10 => absurd (by decide) c_10) (fun c_10 => ?_)
      refine lv_iconst (v := 0) hx hb dX6_quiet_27 (by decide) ?_
      exact W.zret (v := 0) (ty := .boolean) hx hb hr rfl (fun t ht hW => ⟨⟨0, v_1, rfl, ⟨hB, hL, (by unfold sp_quiet; have z0 := c_3a; have z1 := c_3b; have z2 := c_6d; (try simp only [Int32.lt_iff_toInt_lt, Int32.le_iff_toInt_le, ← Int32.toInt_inj, L0, L1, L2, L3, L4, L6, L9, L500, L5, L7, L10, L12, L15, L16, L20, L63, L1000, L1023, L2000, L10000, L100000, Lm1] at z0 z1 z2); rw [if_pos (by simp only [Int32.lt_iff_toInt_lt, Int32.le_iff_toInt_le, ← Int32.toInt_inj, L0, L1, L2, L3, L4, L6, L9, L500, L5, L7, L10, L12, L15, L16, L20, L63, L1000, L1023, L2000, L10000, L100000, Lm1]; omega)])⟩, kt_heap ht hP⟩, hS.F ht⟩) hS.2.2 dX6_quiet_28
  · subst hz_3
    refine lv_if_eq (tgt := 27) hx hb dX6_quiet_13 (by decide) (fun c_11 => ?_) (fun c_11 => absurd (by decide) c_11)
    refine lv_iconst (v := 0) hx hb dX6_quiet_27 (by decide) ?_
    exact W.zret (v := 0) (ty := .boolean) hx hb hr rfl (fun t ht hW => ⟨⟨0, v_1, rfl, ⟨hB, hL, (by unfold sp_quiet; have z0 := c_3d; (try simp only [Int32.lt_iff_toInt_lt, Int32.le_iff_toInt_le, ← Int32.toInt_inj, L0, L1, L2, L3, L4, L6, L9, L500, L5, L7, L10, L12, L15, L16, L20, L63, L1000, L1023, L2000, L10000, L100000, Lm1] at z0); rw [if_pos (by simp only [Int32.lt_iff_toInt_lt, Int32.le_iff_toInt_le, ← Int32.toInt_inj, L0, L1, L2, L3, L4, L6, L9, L500, L5, L7, L10, L12, L15, L16, L20, L63, L1000, L1023, L2000, L10000, L100000, Lm1]; omega)])⟩, kt_heap ht hP⟩, hS.F ht⟩) hS.2.2 dX6_quiet_28

set_option maxHeartbeats 4000000 in
set_option maxRecDepth 100000 in
theorem c_X6_down (l : Launch) (dC : Nat → ClassId) (dI : Nat → Nat → Nat) (cI cZ cS cC cJ : ClassId) (a : Nat → Nat) (v : Nat → Nat → Int32) (sz : Nat) (p0 p1 : Int32) (hD : mDD a) (gn : Nat) (hn : gn < 200000) (hB : rB gn v v) (hL : rL v) : Met l yX6_down (Cond.code yX6_down cX6_down 3 (some .boolean) :: WW) ({ frames := 1, cells := 0, slots := 0, locals := 30 }) (va_Pc [.ref (a 45), .int p0, .int p1] (fun U => U.heap.size = sz ∧ va_P (dC, dI) vwCl (mW cI cZ cS cC cJ a v) U.heap ∧ va_K (dC, dI) vwCl [(cI, .int), (cZ, .boolean), (cS, .object RX3), (cC, .object RX0), (cJ, .long)] U ∧ mN U)) (va_Qi (fun (r : Int32) (u : Nat → Nat → Int32) => (rC gn v u) ∧ (rL u) ∧ ((u 45 1 = v 45 1 ∧ u 45 2 = v 45 2) ∧ ((r = 0 ∧ u 60 = v 60 ∧ ∀ w, w < 17 → p0 = nI w → v 60 w = p1) ∨ (r = 1 ∧ ∃ w, w < 17 ∧ p0 = nI w ∧ v 60 w ≠ p1 ∧ u 60 = upd (v 60) w (vp_nar .boolean p1))))) (fun (u : Nat → Nat → Int32) (t : State) => va_P (dC, dI) vwCl (mW cI cZ cS cC cJ a u) t.heap) (mA a sz)) 0 0 (mA a sz) := by
  refine Met.ofW (cc := cX6_down) (maxL := 3) (ret := (some .boolean)) (by decide) rfl ?_
  intro p e s m args below meth c s₁ B hml hv
  obtain ⟨rfl, hsz, hP, hK, hN⟩ := hv
  have hx := B.exec
  have hb := B.bytes
  have hr := B.returns
  have hts := atoms_spec (ws := Cond.code yX6_down cX6_down 3 (some .boolean) :: WW) B.pre
  have hown : s.vm.findClass RX6 = some m.cls := findClass_of_methodNamed B.named
  have hlocks := B.notSynchronized
  subst hsz
  have hAc : ∀ c, c < 81 → mA a s.heap.size (a c) := fun c h => Or.inl ⟨c, h, rfl⟩
  have hA : ∀ q : Nat, s.heap.size ≤ q → mA a s.heap.size q := fun q h => Or.inr h
  generalize hAe : mA a s.heap.size = A at hAc hA ⊢
  have hS : va_S A s.heap s.heap [] := va_S.rf
  have hl := lv_entry ([.ref (a 45), .int p0, .int p1]) (n := 3) (Nat.le_of_ble_eq_true rfl)
  rw [lg_entry_eq]
  generalize (lg_sl ([.ref (a 45), .int p0, .int p1]) ++ List.replicate (3 - (lg_sl ([.ref (a 45), .int p0, .int p1])).length) Slot.unset).toArray = ls at hl ⊢
  have hl : lv_has ls 3 [(0, .ref (a 45)), (1, .int p0), (2, .int p1)] := hl
  have hB := hB.toC
  refine lv_aload_n hx hb dX6_down_0 rfl (lv_at hl 0 rfl) ?_
  refine lv_iconst (v := 0) hx hb dX6_down_1 (by decide) ?_
  refine va_put (D := (dC, dI)) (ci := 6) (v := .int 0) (ty := .int) (C := RX6) (T := TX6) (N := 43) hx hb hts (fun w h => List.mem_cons_of_mem _ (inWX6 w h)) tyX6 tyX6_ok nmX6 hown hK hP (mD_of hD hAc) hS 45 at_45 rfl 0 (by decide) (hts _ (List.mem_cons_of_mem _ kw_t3_41)) (fun _ h9 => h9) rfl (by decide +kernel) rfl rfl (Nat.le_of_ble_eq_true rfl) dX6_down_2 (fun H locs hP _ hS => ?_)
  obtain ⟨v_1, ev_1⟩ : ∃ z, z = mU v 45 (upd (v 45) 0 0) := ⟨_, rfl⟩
  have hP : va_P (dC, dI) vwCl (mW cI cZ cS cC cJ a v_1) H := by rw [ev_1]; exact mW_put hP (by omega) rfl
  have hB := hB.putO ev_1 (by decide)
  have hL := hL.putM ev_1 (by decide)
  refine lv_iload_n hx hb dX6_down_5 rfl (lv_at hl 1 rfl) ?_
  refine lv_iconst (v := 0) hx hb dX6_down_6 (by decide) ?_
  refine lv_bipush (v := 16) hx hb dX6_down_7 (by decide) ?_
  have hFc := mA_free (a := a) hS hA hAc
  refine va_calli (va_runS (As := [.int p0, .int 0, .int 16]) (rest := []) ⟨hx, hb, hml, hown, hts⟩ (c_X6_isIn l dC dI cI cZ cS cC cJ a v_1 H.size p0 0 16 hD gn (by omega) hB.self) (va_cwS 3 hts (gS (fun w h => List.mem_cons_of_mem _ h) kw_t3_176 kw_t3_177 kw_t1_7 kw_t3_178) rfl rfl rfl (by decide +kernel) ⟨Nat.le_of_ble_eq_true rfl, Nat.le_of_ble_eq_true rfl⟩) ⟨fun av U g mk q => by obtain ⟨q0, q1, qP, qK, qN⟩ := q; exact ⟨q0, q1, qP, va_K.moved (u := U) (U := U.calling g mk av) (Vm.Alike.refl U.vm) qK, mN_same qN⟩, fun U hU hW => ⟨rfl, by rw [hU], by rw [hU]; exact hP, va_K.moved hW.alike hK, mN_warm hW hN⟩⟩ rfl rfl hl.1 rfl (lv_room (Nat.le_of_ble_eq_true rfl)) dX6_down_9 ⟨Nat.le_of_ble_eq_true rfl, Nat.le_of_ble_eq_true rfl⟩) hS (fun q _ h => hFc q h) hFc (fun r_2 _ t H locs ht hvm hw_2 hP _ _ hS => ?_)
  have hP := kt_heap2 ht hP
  clear ht hFc
  have hP : va_P (dC, dI) vwCl (mW cI cZ cS cC cJ a v_1) H := hP
  rcases hw_2 with ⟨hz_3, c_3a, c_3b⟩ | ⟨hz_3, c_3d⟩
  · subst hz_3
    refine lv_if_eq (tgt := 25) hx hb dX6_down_12 (by decide) (fun c_4 => absurd c_4 (by decide)) (fun c_4 => ?_)
    refine lv_aload_n hx hb dX6_down_15 rfl (lv_at hl 0 rfl) ?_
    refine va_get (D := (dC, dI)) (ci := 6) (v := .ref (a 60)) (C := RX6) (T := TX6) (N := 43) hx hb hts (fun w h => List.mem_cons_of_mem _ (inWX6 w h)) hown hK hP 45 at_45 rfl 23 (by decide) (hts _ (List.mem_cons_of_mem _ kw_t3_64)) (fun _ h9 => h9) rfl dX6_down_16 ?_
    refine lv_iload_n hx hb dX6_down_19 rfl (lv_at hl 1 rfl) ?_
    obtain ⟨ix_6, hx_6, ex_6⟩ := kt_idx (x := p0) (n := 17) (by have z0 := c_3a; have z1 := c_3b; (try simp only [Int32.lt_iff_toInt_lt, Int32.le_iff_toInt_le, ← Int32.toInt_inj, L0, L1, L2, L3, L4, L6, L9, L500, L5, L7, L10, L12, L15, L16, L20, L63, L1000, L1023, L2000, L10000, L100000, Lm1] at z0 z1); omega) (by have z0 := c_3a; have z1 := c_3b; (try simp only [Int32.lt_iff_toInt_lt, Int32.le_iff_toInt_le, ← Int32.toInt_inj, L0, L1, L2, L3, L4, L6, L9, L500, L5, L7, L10, L12, L15, L16, L20, L63, L1000, L1023, L2000, L10000, L100000, Lm1] at z0 z1); omega)
    refine va_zald hx hb hK hP 60 1 at_60 rfl (kt_inN ex_6 (by omega) (by decide)) dX6_down_20 ?_
    refine lv_topi (fun t_7 et_7 => ?_)
    rw [ex_6, nI_clamp (by omega)] at et_7
    refine lv_iload_n hx hb dX6_down_21 rfl (lv_at hl 2 rfl) ?_
    refine lv_icmp_ne (tgt := 27) hx hb dX6_down_22 (by decide) (fun c_8 => ?_) (fun c_8 => ?_)
    · refine lv_aload_n hx hb dX6_down_27 rfl (lv_at hl 0 rfl) ?_
      refine va_get (D := (dC, dI)) (ci := 6) (v := .ref (a 60)) (C := RX6) (T := TX6) (N := 43) hx hb hts (fun w h => List.mem_cons_of_mem _ (inWX6 w h)) hown hK hP 45 at_45 rfl 23 (by decide) (hts _ (List.mem_cons_of_mem _ kw_t3_64)) (fun _ h9 => h9) rfl dX6_down_28 ?_
      refine lv_iload_n hx hb dX6_down_31 rfl (lv_at hl 1 rfl) ?_
      refine lv_iload_n hx hb dX6_down_32 rfl (lv_at hl 2 rfl) ?_
      refine va_zast hx hb hK hP (mD_of hD hAc) hS 60 1 at_60 rfl (kt_inN ex_6 (by omega) (by decide)) dX6_down_33 (fun H locs hP _ hS => ?_)
      obtain ⟨v_9, ev_9⟩ : ∃ z, z = mU v_1 60 (upd (v_1 60) ix_6 (vp_nar .boolean p1)) := ⟨_, rfl⟩
      have hP : va_P (dC, dI) vwCl (mW cI cZ cS cC cJ a v_9) H := by rw [ev_9]; exact mW_put hP (by omega) (by rw [ex_6, nI_clamp (by omega)]; rfl)
      have hB := hB.put ev_9 (by decide)
      have hL := hL.put ev_9 (by decide)
      refine lv_iconst (v := 1) hx hb dX6_down_34 (by decide) ?_
      exact W.zret (v := 1) (ty := .boolean) hx hb hr rfl (fun t ht hW => ⟨⟨1, v_9, rfl, ⟨hB, hL, ⟨⟨by rw [ev_9, mU_ne _ _ (by decide), ev_1, mU_self]; rfl, by rw [ev_9, mU_ne _ _ (by decide), ev_1, mU_self]; rfl⟩, Or.inr ⟨rfl, ix_6, by omega, ex_6, fun z => c_8 (et_7.trans (by rw [show v_1 60 = v 60 from (by rw [ev_1, mU_ne _ _ (by first | decide | omega)])]; exact z)), by rw [ev_9, mU_self, show v_1 60 = v 60 from (by rw [ev_1, mU_ne _ _ (by first | decide | omega)])]⟩⟩⟩, kt_heap ht hP⟩, hS.F ht⟩) hS.2.2 dX6_down_35
    · refine lv_iconst (v := 0) hx hb dX6_down_25 (by decide) ?_
      exact W.zret (v := 0) (ty := .boolean) hx hb hr rfl (fun t ht hW => ⟨⟨0, v_1, rfl, ⟨hB, hL, ⟨⟨by rw [ev_1, mU_self]; rfl, by rw [ev_1, mU_self]; rfl⟩, Or.inl ⟨rfl, (by rw [ev_1, mU_ne _ _ (by first | decide | omega)]), fun w hw e => by obtain rfl : w = ix_6 := (nI_eq (by omega) (by omega)).mp (e.symm.trans ex_6); rw [show v 60 = v_1 60 from Eq.symm (by rw [ev_1, mU_ne _ _ (by first | decide | omega)]), ← et_7]; exact c_8⟩⟩⟩, kt_heap ht hP⟩, hS.F ht⟩) hS.2.2 dX6_down_26
  · subst hz_3
    refine lv_if_eq (tgt := 25) hx hb dX6_down_12 (by decide) (fun c_10 => ?_) (fun c_10 => absurd (by decide) c_10)
    refine lv_iconst (v := 0) hx hb dX6_down_25 (by decide) ?_
    exact W.zret (v := 0) (ty := .boolean) hx hb hr rfl (fun t ht hW => ⟨⟨0, v_1, rfl, ⟨hB, hL, ⟨⟨by rw [ev_1, mU_self]; rfl, by rw [ev_1, mU_self]; rfl⟩, Or.inl ⟨rfl, (by rw [ev_1, mU_ne _ _ (by first | decide | omega)]), fun w hw e => absurd c_3d (by rw [e]; simp only [Int32.lt_iff_toInt_lt, nI_toInt (show w < 2 ^ 31 by omega), L0, L16]; omega)⟩⟩⟩, kt_heap ht hP⟩, hS.F ht⟩) hS.2.2 dX6_down_26
end
section
set_option maxHeartbeats 4000000 in
set_option maxRecDepth 100000 in
theorem c_X6_hangsOn (l : Launch) (dC : Nat → ClassId) (dI : Nat → Nat → Nat) (cI cZ cS cC cJ : ClassId) (a : Nat → Nat) (v : Nat → Nat → Int32) (sz : Nat) (p0 p1 : Int32) (hD : mDD a) (gn : Nat) (hn : gn < 200000) (hB : rB gn v v) (i0 : Nat) (hi0 : i0 < 12) (ei0 : p0 = nI i0) (q1 : Nat) (hq1 : q1 < 12) (eq1 : p1 = nI q1) : Met l yX6_hangsOn (Cond.code yX6_hangsOn cX6_hangsOn 6 (some .boolean) :: WW) ({ frames := 0, cells := 0, slots := 0, locals := 0 }) (va_Pc [.ref (a 45), .int p0, .int p1] (fun U => U.heap.size = sz ∧ va_P (dC, dI) vwCl (mW cI cZ cS cC cJ a v) U.heap ∧ va_K (dC, dI) vwCl [(cI, .int), (cZ, .boolean), (cS, .object RX3), (cC, .object RX0), (cJ, .long)] U ∧ mN U)) (va_Qi (fun (r : Int32) (u : Nat → Nat → Int32) => (∀ c, c ≠ 78 → u c = v c) ∧ (r = u 78 q1 ∧ (r = 0 ∨ r = 1) ∧ (∀ x y : Nat, (x : Int) < (v 45 2).toInt → (y : Int) < (v 45 2).toInt → hC (v 59) i0 (u 78) x y) ∧ (r = 1 ↔ Rch (fun a b => v 59 (12 * a + b) ≠ 0) i0 q1))) (fun (u : Nat → Nat → Int32) (t : State) => va_P (dC, dI) vwCl (mW cI cZ cS cC cJ a u) t.heap) (mA a sz)) 0 0 (mA a sz) := by
  refine Met.ofW (cc := cX6_hangsOn) (maxL := 6) (ret := (some .boolean)) (by decide) rfl ?_
  intro p e s m args below meth c s₁ B hml hv
  obtain ⟨rfl, hsz, hP, hK, hN⟩ := hv
  have hx := B.exec
  have hb := B.bytes
  have hr := B.returns
  have hts := atoms_spec (ws := Cond.code yX6_hangsOn cX6_hangsOn 6 (some .boolean) :: WW) B.pre
  have hown : s.vm.findClass RX6 = some m.cls := findClass_of_methodNamed B.named
  have hlocks := B.notSynchronized
  subst hsz
  have hAc : ∀ c, c < 81 → mA a s.heap.size (a c) := fun c h => Or.inl ⟨c, h, rfl⟩
  have hA : ∀ q : Nat, s.heap.size ≤ q → mA a s.heap.size q := fun q h => Or.inr h
  generalize hAe : mA a s.heap.size = A at hAc hA ⊢
  have hS : va_S A s.heap s.heap [] := va_S.rf
  have hl := lv_entry ([.ref (a 45), .int p0, .int p1]) (n := 6) (Nat.le_of_ble_eq_true rfl)
  rw [lg_entry_eq]
  generalize (lg_sl ([.ref (a 45), .int p0, .int p1]) ++ List.replicate (6 - (lg_sl ([.ref (a 45), .int p0, .int p1])).length) Slot.unset).toArray = ls at hl ⊢
  have hl : lv_has ls 6 [(0, .ref (a 45)), (1, .int p0), (2, .int p1)] := hl
  have hB0 := hB
  refine kt_absQ (fun Q hQ9 => ?_)
  refine lv_iconst (v := 0) hx hb dX6_hangsOn_0 (by decide) ?_
  refine lv_istore_n (lv' := [(3, .int 0), (0, .ref (a 45)), (1, .int p0), (2, .int p1)]) hx hb dX6_hangsOn_1 rfl hl (by decide) rfl (fun ls hl => ?_)
  have key1 : ∀ (n i1 : Nat) (k1 : Int32) (w1 : Nat → Nat → Int32) (H : Heap) (locs : List Loc) (ls : Array Slot), i1 ≤ 12 → 12 - i1 < n → k1 = nI i1 → va_P (dC, dI) vwCl (mW cI cZ cS cC cJ a w1) H → va_S A s.heap H locs → lv_has ls 6 [(3, .int k1), (0, .ref (a 45)), (1, .int p0), (2, .int p1)] → rB gn v w1 → ((∀ c, c ≠ 78 → w1 c = v c) ∧ ∀ x, x < i1 → w1 78 x = 0) → W p l e (headSpec (Cond.code yX6_hangsOn cX6_hangsOn 6 (some .boolean) :: WW) ({ frames := 0, cells := 0, slots := 0, locals := 0 })).room s m ([.ref (a 45), .int p0, .int p1] : List Value).toArray below meth c H locs 0 0 Q (F0 m 2 ls []) := by
    intro n
    induction n with
    | zero => intro i k w1 H locs ls h1 h2; exact absurd h2 (by omega)
    | succ n ih1 =>
      intro i1 k1 w1 H locs ls hi1 hin1 ek1 hP hS hl hB hJ1
      refine lv_iload_n hx hb dX6_hangsOn_2 rfl (lv_at hl 0 rfl) ?_
      refine lv_bipush (v := 12) hx hb dX6_hangsOn_3 (by decide) ?_
      refine lv_icmp_ge (tgt := 21) hx hb dX6_hangsOn_5 (by decide) (fun c_1 => ?_) (fun c_1 => ?_)
      · have hxA : 12 ≤ i1 := by have z := c_1; rw [Int32.le_iff_toInt_le, ek1, nI_toInt (by omega), L12] at z; omega
        refine lv_iconst (v := 1) hx hb dX6_hangsOn_21 (by decide) ?_
        refine lv_istore_n (lv' := [(3, .int 1), (0, .ref (a 45)), (1, .int p0), (2, .int p1)]) hx hb dX6_hangsOn_22 rfl hl (by decide) rfl (fun ls hl => ?_)
        have key2 : ∀ (n : Nat) (y2_3 : Int32) (w2 : Nat → Nat → Int32) (H : Heap) (locs : List Loc) (ls : Array Slot), czR (w2 78) 12 + (if y2_3 = 0 then 0 else 1) < n → va_P (dC, dI) vwCl (mW cI cZ cS cC cJ a w2) H → va_S A s.heap H locs → lv_has ls 6 [(3, .int y2_3), (0, .ref (a 45)), (1, .int p0), (2, .int p1)] → rB gn v w2 → ((∀ c, c ≠ 78 → w2 c = v c) ∧ hN78 (v 59) i0 (w2 78) ∧ (y2_3 = 0 → ∀ x y : Nat, (x : Int) < (v 45 2).toInt → (y : Int) < (v 45 2).toInt → hC (v 59) i0 (w2 78) x y)) → W p l e (headSpec (Cond.code yX6_hangsOn cX6_hangsOn 6 (some .boolean) :: WW) ({ frames := 0, cells := 0, slots := 0, locals := 0 })).room s m ([.ref (a 45), .int p0, .int p1] : List Value).toArray below meth c H locs 0 0 Q (F0 m 23 ls []) := by
          intro n
          induction n with
          | zero => intro y2_3 w2 H locs ls h1; exact absurd h1 (by omega)
          | succ n ih2 =>
            intro y2_3 w2 H locs ls hm2 hP hS hl hB hJ2
            refine lv_iload_n hx hb dX6_hangsOn_23 rfl (lv_at hl 0 rfl) ?_
            refine lv_if_eq (tgt := 123) hx hb dX6_hangsOn_24 (by decide) (fun c_2 => ?_) (fun c_2 => ?_)
            · refine lv_aload_n hx hb dX6_hangsOn_123 rfl (lv_at hl 1 rfl) ?_
              refine va_get (D := (dC, dI)) (ci := 6) (v := .ref (a 78)) (C := RX6) (T := TX6) (N := 43) hx hb hts (fun w h => List.mem_cons_of_mem _ (inWX6 w h)) hown hK hP 45 at_45 rfl 41 (by decide) (hts _ (List.mem_cons_of_mem _ kw_t3_82)) (fun _ h9 => h9) rfl dX6_hangsOn_124 ?_
              refine lv_iload_n hx hb dX6_hangsOn_127 rfl (lv_at hl 3 rfl) ?_
              refine va_zald hx hb hK hP 78 1 at_78 rfl (kt_inN eq1 (by omega) (by decide)) dX6_hangsOn_128 ?_
              refine lv_topi (fun t_3 et_3 => ?_)
              rw [eq1, nI_clamp (by omega)] at et_3
              rcases hJ2.2.1 q1 hq1 with hz_4 | ⟨hz_4, hr_4⟩
              · obtain rfl : t_3 = 0 := et_3.trans hz_4
                rw [hQ9]
                exact W.zret (v := 0) (ty := .boolean) hx hb hr rfl (fun t ht hW => ⟨⟨0, w2, rfl, ⟨hJ2.1, ⟨hz_4.symm, Or.inl rfl, hJ2.2.2 c_2, ⟨fun z => absurd z (by decide), fun z => absurd hz_4 (hC_fin hB0.nd hi0 (hJ2.2.2 c_2) z)⟩⟩⟩, kt_heap ht hP⟩, hS.F ht⟩) hS.2.2 dX6_hangsOn_129
              · obtain rfl : t_3 = 1 := et_3.trans hz_4
                rw [hQ9]
                exact W.zret (v := 1) (ty := .boolean) hx hb hr rfl (fun t ht hW => ⟨⟨1, w2, rfl, ⟨hJ2.1, ⟨hz_4.symm, Or.inr rfl, hJ2.2.2 c_2, ⟨fun _ => hr_4, fun _ => rfl⟩⟩⟩, kt_heap ht hP⟩, hS.F ht⟩) hS.2.2 dX6_hangsOn_129
            · refine lv_iconst (v := 0) hx hb dX6_hangsOn_27 (by decide) ?_
              refine lv_istore_n (lv' := [(3, .int 0), (0, .ref (a 45)), (1, .int p0), (2, .int p1)]) hx hb dX6_hangsOn_28 rfl hl (by decide) rfl (fun ls hl => ?_)
              refine lv_iconst (v := 0) hx hb dX6_hangsOn_29 (by decide) ?_
              refine lv_istore (lv' := [(4, .int 0), (3, .int 0), (0, .ref (a 45)), (1, .int p0), (2, .int p1)]) hx hb dX6_hangsOn_30 hl (by decide) rfl (fun ls hl => ?_)
              have key3 : ∀ (n i3 : Nat) (k3 : Int32) (y3_3 : Int32) (w3 : Nat → Nat → Int32) (H : Heap) (locs : List Loc) (ls : Array Slot), i3 ≤ 12 → 12 - i3 < n → k3 = nI i3 → va_P (dC, dI) vwCl (mW cI cZ cS cC cJ a w3) H → va_S A s.heap H locs → lv_has ls 6 [(4, .int k3), (3, .int y3_3), (0, .ref (a 45)), (1, .int p0), (2, .int p1)] → rB gn v w3 → ((∀ c, c ≠ 78 → w3 c = v c) ∧ hN78 (v 59) i0 (w3 78) ∧ czR (w3 78) 12 ≤ czR (w2 78) 12 ∧ (y3_3 ≠ 0 → czR (w3 78) 12 < czR (w2 78) 12) ∧ (y3_3 = 0 → ∀ x : Nat, x < i3 → ∀ y : Nat, (y : Int) < (v 45 2).toInt → hC (v 59) i0 (w3 78) x y)) → W p l e (headSpec (Cond.code yX6_hangsOn cX6_hangsOn 6 (some .boolean) :: WW) ({ frames := 0, cells := 0, slots := 0, locals := 0 })).room s m ([.ref (a 45), .int p0, .int p1] : List Value).toArray below meth c H locs 0 0 Q (F0 m 32 ls []) := by
                intro n
                induction n with
                | zero => intro i k y3_3 w3 H locs ls h1 h2; exact absurd h2 (by omega)
                | succ n ih3 =>
                  intro i3 k3 y3_3 w3 H locs ls hi3 hin3 ek3 hP hS hl hB hJ3
                  refine lv_iload hx hb dX6_hangsOn_32 (lv_at hl 0 rfl) ?_
                  refine lv_aload_n hx hb dX6_hangsOn_34 rfl (lv_at hl 2 rfl) ?_
                  refine va_get (D := (dC, dI)) (ci := 6) (v := .int (w3 45 2)) (C := RX6) (T := TX6) (N := 43) hx hb hts (fun w h => List.mem_cons_of_mem _ (inWX6 w h)) hown hK hP 45 at_45 rfl 2 (by decide) (hts _ (List.mem_cons_of_mem _ kw_t3_43)) (fun _ h9 => h9) rfl dX6_hangsOn_35 ?_
                  refine lv_topi (fun t_5 et_5 => ?_)
                  have hsc_5 : 0 ≤ t_5.toInt ∧ t_5.toInt ≤ 12 := by rw [et_5]; exact hB.sc
                  refine lv_icmp_ge (tgt := 120) hx hb dX6_hangsOn_38 (by decide) (fun c_6 => ?_) (fun c_6 => ?_)
                  · have hxC : (v 45 2).toInt ≤ i3 := by have z := c_6; rw [Int32.le_iff_toInt_le, ek3, nI_toInt (by omega), et_5, hJ3.1 45 (by decide)] at z; exact z
                    refine lv_goto (tgt := 23) hx hb dX6_hangsOn_120 (by decide) ?_
                    exact ih2 y3_3 w3 _ _ _ (by have z1 := hJ3.2.2.1; have z2 := hJ3.2.2.2.1; have z3 := hm2; by_cases z : y3_3 = 0; (rw [if_pos z]; rw [if_neg c_2] at z3; omega); rw [if_neg z]; rw [if_neg c_2] at z3; have := z2 z; omega) hP hS (lv_sub hl [1, 2, 3, 4] rfl) hB ⟨hJ3.1, hJ3.2.1, fun z x y hx hy => hJ3.2.2.2.2 z x (by have := hxC; omega) y hy⟩
                  · refine lv_iconst (v := 0) hx hb dX6_hangsOn_41 (by decide) ?_
                    refine lv_istore (lv' := [(5, .int 0), (4, .int k3), (3, .int y3_3), (0, .ref (a 45)), (1, .int p0), (2, .int p1)]) hx hb dX6_hangsOn_42 hl (by decide) rfl (fun ls hl => ?_)
                    have hi_7 : i3 < 12 := kt_lt12 hsc_5 ek3 hi3 c_6
                    have key4 : ∀ (n i4 : Nat) (k4 : Int32) (y4_3 : Int32) (w4 : Nat → Nat → Int32) (H : Heap) (locs : List Loc) (ls : Array Slot), i4 ≤ 12 → 12 - i4 < n → k4 = nI i4 → va_P (dC, dI) vwCl (mW cI cZ cS cC cJ a w4) H → va_S A s.heap H locs → lv_has ls 6 [(5, .int k4), (4, .int k3), (3, .int y4_3), (0, .ref (a 45)), (1, .int p0), (2, .int p1)] → rB gn v w4 → ((∀ c, c ≠ 78 → w4 c = v c) ∧ hN78 (v 59) i0 (w4 78) ∧ czR (w4 78) 12 ≤ czR (w2 78) 12 ∧ (y4_3 ≠ 0 → czR (w4 78) 12 < czR (w2 78) 12) ∧ (y4_3 = 0 → (∀ x : Nat, x < i3 → ∀ y : Nat, (y : Int) < (v 45 2).toInt → hC (v 59) i0 (w4 78) x y) ∧ ∀ y : Nat, y < i4 → hC (v 59) i0 (w4 78) i3 y)) → W p l e (headSpec (Cond.code yX6_hangsOn cX6_hangsOn 6 (some .boolean) :: WW) ({ frames := 0, cells := 0, slots := 0, locals := 0 })).room s m ([.ref (a 45), .int p0, .int p1] : List Value).toArray below meth c H locs 0 0 Q (F0 m 44 ls []) := by
                      intro n
                      induction n with
                      | zero => intro i k y4_3 w4 H locs ls h1 h2; exact absurd h2 (by omega)
                      | succ n ih4 =>
                        intro i4 k4 y4_3 w4 H locs ls hi4 hin4 ek4 hP hS hl hB hJ4
                        refine lv_iload hx hb dX6_hangsOn_44 (lv_at hl 0 rfl) ?_
                        refine lv_aload_n hx hb dX6_hangsOn_46 rfl (lv_at hl 3 rfl) ?_
                        refine va_get (D := (dC, dI)) (ci := 6) (v := .int (w4 45 2)) (C := RX6) (T := TX6) (N := 43) hx hb hts (fun w h => List.mem_cons_of_mem _ (inWX6 w h)) hown hK hP 45 at_45 rfl 2 (by decide) (hts _ (List.mem_cons_of_mem _ kw_t3_43)) (fun _ h9 => h9) rfl dX6_hangsOn_47 ?_
                        refine lv_topi (fun t_8 et_8 => ?_)
                        have hsc_8 : 0 ≤ t_8.toInt ∧ t_8.toInt ≤ 12 := by rw [et_8]; exact hB.sc
                        refine lv_icmp_ge (tgt := 114) hx hb dX6_hangsOn_50 (by decide) (fun c_9 => ?_) (fun c_9 => ?_)
                        · have hxD : (v 45 2).toInt ≤ i4 := by have z := c_9; rw [Int32.le_iff_toInt_le, ek4, nI_toInt (by omega), et_8, hJ4.1 45 (by decide)] at z; exact z
                          obtain ⟨t_10, et_10⟩ : ∃ y : Int32, y = k3 + 1 := ⟨_, rfl⟩
                          refine lv_iinc (v := t_10) (lv' := [(4, .int t_10), (5, .int k4), (3, .int y4_3), (0, .ref (a 45)), (1, .int p0), (2, .int p1)]) hx hb dX6_hangsOn_114 hl (k := 1) rfl (by rw [et_10]; rfl) (by decide) rfl (fun ls hl => ?_)
                          refine lv_goto (tgt := 32) hx hb dX6_hangsOn_117 (by decide) ?_
                          exact ih3 (i3 + 1) t_10 y4_3 w4 _ _ _ (by omega) (by omega) (by rw [et_10, ek3]; exact nI_1 i3) hP hS (lv_sub hl [0, 2, 3, 4, 5] rfl) hB ⟨hJ4.1, hJ4.2.1, hJ4.2.2.1, hJ4.2.2.2.1, fun z x hx y hy => by by_cases h9 : x = i3; (obtain rfl : i3 = x := h9.symm; exact (hJ4.2.2.2.2 z).2 y (by have := hxD; omega)); exact (hJ4.2.2.2.2 z).1 x (by omega) y hy⟩
                        · refine lv_aload_n hx hb dX6_hangsOn_53 rfl (lv_at hl 3 rfl) ?_
                          refine va_get (D := (dC, dI)) (ci := 6) (v := .ref (a 59)) (C := RX6) (T := TX6) (N := 43) hx hb hts (fun w h => List.mem_cons_of_mem _ (inWX6 w h)) hown hK hP 45 at_45 rfl 22 (by decide) (hts _ (List.mem_cons_of_mem _ kw_t3_63)) (fun _ h9 => h9) rfl dX6_hangsOn_54 ?_
                          refine lv_bipush (v := 12) hx hb dX6_hangsOn_57 (by decide) ?_
                          refine lv_iload hx hb dX6_hangsOn_59 (lv_at hl 1 rfl) ?_
                          refine lv_imul hx hb dX6_hangsOn_61 ?_
                          refine lv_topi (fun t_11 et_11 => ?_)
                          refine lv_iload hx hb dX6_hangsOn_62 (lv_at hl 0 rfl) ?_
                          refine lv_iadd hx hb dX6_hangsOn_64 ?_
                          refine lv_topi (fun t_12 et_12 => ?_)
                          have hi_14 : i4 < 12 := kt_lt12 hsc_8 ek4 hi4 c_9
                          have hm_13 : t_12 = nI (12 * i3 + i4) := kt_mad (C := 12) rfl ek3 ek4 et_11 et_12
                          refine va_zald hx hb hK hP 59 1 at_59 rfl (kt_inN hm_13 (by omega) (by decide)) dX6_hangsOn_65 ?_
                          refine lv_topi (fun t_15 et_15 => ?_)
                          rw [hm_13, nI_clamp (by omega)] at et_15
                          refine lv_if_eq (tgt := 108) hx hb dX6_hangsOn_66 (by decide) (fun c_16 => ?_) (fun c_16 => ?_)
                          · obtain ⟨t_17, et_17⟩ : ∃ y : Int32, y = k4 + 1 := ⟨_, rfl⟩
                            refine lv_iinc (v := t_17) (lv' := [(5, .int t_17), (4, .int k3), (3, .int y4_3), (0, .ref (a 45)), (1, .int p0), (2, .int p1)]) hx hb dX6_hangsOn_108 hl (k := 0) rfl (by rw [et_17]; rfl) (by decide) rfl (fun ls hl => ?_)
                            refine lv_goto (tgt := 44) hx hb dX6_hangsOn_111 (by decide) ?_
                            exact ih4 (i4 + 1) t_17 y4_3 w4 _ _ _ (by omega) (by omega) (by rw [et_17, ek4]; exact nI_1 i4) hP hS (lv_sub hl [0, 1, 2, 3, 4, 5] rfl) hB ⟨hJ4.1, hJ4.2.1, hJ4.2.2.1, hJ4.2.2.2.1, fun z => ⟨(hJ4.2.2.2.2 z).1, fun y hy => by by_cases h9 : y = i4; (obtain rfl : i4 = y := h9.symm; exact (fun z1 => absurd ((show w4 59 (12 * i3 + i4) = v 59 (12 * i3 + i4) by rw [hJ4.1 59 (by decide)]).symm.trans (et_15.symm.trans c_16)) z1)); exact (hJ4.2.2.2.2 z).2 y (by omega)⟩⟩
                          · refine lv_iload hx hb dX6_hangsOn_69 (lv_at hl 1 rfl) ?_
                            refine lv_iload_n hx hb dX6_hangsOn_71 rfl (lv_at hl 4 rfl) ?_
                            refine lv_icmp_eq (tgt := 85) hx hb dX6_hangsOn_72 (by decide) (fun c_18 => ?_) (fun c_18 => ?_)
                            · refine lv_aload_n hx hb dX6_hangsOn_85 rfl (lv_at hl 3 rfl) ?_
                              refine va_get (D := (dC, dI)) (ci := 6) (v := .ref (a 78)) (C := RX6) (T := TX6) (N := 43) hx hb hts (fun w h => List.mem_cons_of_mem _ (inWX6 w h)) hown hK hP 45 at_45 rfl 41 (by decide) (hts _ (List.mem_cons_of_mem _ kw_t3_82)) (fun _ h9 => h9) rfl dX6_hangsOn_86 ?_
                              refine lv_iload hx hb dX6_hangsOn_89 (lv_at hl 0 rfl) ?_
                              refine va_zald hx hb hK hP 78 1 at_78 rfl (kt_inN ek4 (by omega) (by decide)) dX6_hangsOn_91 ?_
                              refine lv_topi (fun t_19 et_19 => ?_)
                              rw [ek4, nI_clamp (by omega)] at et_19
                              refine lv_if_eq (tgt := 98) hx hb dX6_hangsOn_92 (by decide) (fun c_20 => ?_) (fun c_20 => ?_)
                              · refine lv_aload_n hx hb dX6_hangsOn_98 rfl (lv_at hl 3 rfl) ?_
                                refine va_get (D := (dC, dI)) (ci := 6) (v := .ref (a 78)) (C := RX6) (T := TX6) (N := 43) hx hb hts (fun w h => List.mem_cons_of_mem _ (inWX6 w h)) hown hK hP 45 at_45 rfl 41 (by decide) (hts _ (List.mem_cons_of_mem _ kw_t3_82)) (fun _ h9 => h9) rfl dX6_hangsOn_99 ?_
                                refine lv_iload hx hb dX6_hangsOn_102 (lv_at hl 0 rfl) ?_
                                refine lv_iconst (v := 1) hx hb dX6_hangsOn_104 (by decide) ?_
                                refine va_zast hx hb hK hP (mD_of hD hAc) hS 78 1 at_78 rfl (kt_inN ek4 (by omega) (by decide)) dX6_hangsOn_105 (fun H locs hP _ hS => ?_)
                                obtain ⟨v_21, ev_21⟩ : ∃ z, z = mU w4 78 (upd (w4 78) i4 (vp_nar .boolean 1)) := ⟨_, rfl⟩
                                have hP : va_P (dC, dI) vwCl (mW cI cZ cS cC cJ a v_21) H := by rw [ev_21]; exact mW_put hP (by omega) (by rw [ek4, nI_clamp (by omega)]; rfl)
                                have hB := hB.put ev_21 (by decide)
                                refine lv_iconst (v := 1) hx hb dX6_hangsOn_106 (by decide) ?_
                                refine lv_istore_n (lv' := [(3, .int 1), (5, .int k4), (4, .int k3), (0, .ref (a 45)), (1, .int p0), (2, .int p1)]) hx hb dX6_hangsOn_107 rfl hl (by decide) rfl (fun ls hl => ?_)
                                obtain ⟨t_22, et_22⟩ : ∃ y : Int32, y = k4 + 1 := ⟨_, rfl⟩
                                refine lv_iinc (v := t_22) (lv' := [(5, .int t_22), (3, .int 1), (4, .int k3), (0, .ref (a 45)), (1, .int p0), (2, .int p1)]) hx hb dX6_hangsOn_108 hl (k := 1) rfl (by rw [et_22]; rfl) (by decide) rfl (fun ls hl => ?_)
                                refine lv_goto (tgt := 44) hx hb dX6_hangsOn_111 (by decide) ?_
                                exact ih4 (i4 + 1) t_22 1 v_21 _ _ _ (by omega) (by omega) (by rw [et_22, ek4]; exact nI_1 i4) hP hS (lv_sub hl [0, 2, 1, 3, 4, 5] rfl) hB ⟨(fun c hc => by rw [ev_21, mU_ne _ _ hc]; exact hJ4.1 c hc), by rw [ev_21, mU_self]; exact hJ4.2.1.set _ (hS_rch (by omega) (by omega) (fun z9 => c_16 (et_15.trans ((show w4 59 (12 * i3 + i4) = v 59 (12 * i3 + i4) by rw [hJ4.1 59 (by decide)]).trans z9))) (Or.inl ((nI_eq (by omega) (by omega)).mp (ek3.symm.trans (c_18.trans ei0))))), by rw [ev_21, mU_self]; have := czR_set (f := w4 78) (j := i4) (y := 1) (by decide) (et_19.symm.trans c_20) 12 (by omega); have := hJ4.2.2.1; show czR (upd (w4 78) i4 1) 12 ≤ _; omega, fun _ => by rw [ev_21, mU_self]; have := czR_set (f := w4 78) (j := i4) (y := 1) (by decide) (et_19.symm.trans c_20) 12 (by omega); have := hJ4.2.2.1; show czR (upd (w4 78) i4 1) 12 < _; omega, fun z => absurd z (by decide)⟩
                              · refine lv_goto (tgt := 108) hx hb dX6_hangsOn_95 (by decide) ?_
                                obtain ⟨t_23, et_23⟩ : ∃ y : Int32, y = k4 + 1 := ⟨_, rfl⟩
                                refine lv_iinc (v := t_23) (lv' := [(5, .int t_23), (4, .int k3), (3, .int y4_3), (0, .ref (a 45)), (1, .int p0), (2, .int p1)]) hx hb dX6_hangsOn_108 hl (k := 0) rfl (by rw [et_23]; rfl) (by decide) rfl (fun ls hl => ?_)
                                refine lv_goto (tgt := 44) hx hb dX6_hangsOn_111 (by decide) ?_
                                exact ih4 (i4 + 1) t_23 y4_3 w4 _ _ _ (by omega) (by omega) (by rw [et_23, ek4]; exact nI_1 i4) hP hS (lv_sub hl [0, 1, 2, 3, 4, 5] rfl) hB ⟨hJ4.1, hJ4.2.1, hJ4.2.2.1, hJ4.2.2.2.1, fun z => ⟨(hJ4.2.2.2.2 z).1, fun y hy => by by_cases h9 : y = i4; (obtain rfl : i4 = y := h9.symm; exact (fun _ _ z2 => c_20 (et_19.trans z2))); exact (hJ4.2.2.2.2 z).2 y (by omega)⟩⟩
                            · refine lv_aload_n hx hb dX6_hangsOn_75 rfl (lv_at hl 3 rfl) ?_
                              refine va_get (D := (dC, dI)) (ci := 6) (v := .ref (a 78)) (C := RX6) (T := TX6) (N := 43) hx hb hts (fun w h => List.mem_cons_of_mem _ (inWX6 w h)) hown hK hP 45 at_45 rfl 41 (by decide) (hts _ (List.mem_cons_of_mem _ kw_t3_82)) (fun _ h9 => h9) rfl dX6_hangsOn_76 ?_
                              refine lv_iload hx hb dX6_hangsOn_79 (lv_at hl 1 rfl) ?_
                              refine va_zald hx hb hK hP 78 1 at_78 rfl (kt_inN ek3 (by omega) (by decide)) dX6_hangsOn_81 ?_
                              refine lv_topi (fun t_24 et_24 => ?_)
                              rw [ek3, nI_clamp (by omega)] at et_24
                              refine lv_if_eq (tgt := 108) hx hb dX6_hangsOn_82 (by decide) (fun c_25 => ?_) (fun c_25 => ?_)
                              · obtain ⟨t_26, et_26⟩ : ∃ y : Int32, y = k4 + 1 := ⟨_, rfl⟩
                                refine lv_iinc (v := t_26) (lv' := [(5, .int t_26), (4, .int k3), (3, .int y4_3), (0, .ref (a 45)), (1, .int p0), (2, .int p1)]) hx hb dX6_hangsOn_108 hl (k := 0) rfl (by rw [et_26]; rfl) (by decide) rfl (fun ls hl => ?_)
                                refine lv_goto (tgt := 44) hx hb dX6_hangsOn_111 (by decide) ?_
                                exact ih4 (i4 + 1) t_26 y4_3 w4 _ _ _ (by omega) (by omega) (by rw [et_26, ek4]; exact nI_1 i4) hP hS (lv_sub hl [0, 1, 2, 3, 4, 5] rfl) hB ⟨hJ4.1, hJ4.2.1, hJ4.2.2.1, hJ4.2.2.2.1, fun z => ⟨(hJ4.2.2.2.2 z).1, fun y hy => by by_cases h9 : y = i4; (obtain rfl : i4 = y := h9.symm; exact (fun _ z1 => absurd z1 (by rintro (z2 | z2); (exact c_18 (by rw [ek3, z2, ei0])); exact z2 (et_24.symm.trans c_25)))); exact (hJ4.2.2.2.2 z).2 y (by omega)⟩⟩
                              · refine lv_aload_n hx hb dX6_hangsOn_85 rfl (lv_at hl 3 rfl) ?_
                                refine va_get (D := (dC, dI)) (ci := 6) (v := .ref (a 78)) (C := RX6) (T := TX6) (N := 43) hx hb hts (fun w h => List.mem_cons_of_mem _ (inWX6 w h)) hown hK hP 45 at_45 rfl 41 (by decide) (hts _ (List.mem_cons_of_mem _ kw_t3_82)) (fun _ h9 => h9) rfl dX6_hangsOn_86 ?_
                                refine lv_iload hx hb dX6_hangsOn_89 (lv_at hl 0 rfl) ?_
                                refine va_zald hx hb hK hP 78 1 at_78 rfl (kt_inN ek4 (by omega) (by decide)) dX6_hangsOn_91 ?_
                                refine lv_topi (fun t_27 et_27 => ?_)
                                rw [ek4, nI_clamp (by omega)] at et_27
                                refine lv_if_eq (tgt := 98) hx hb dX6_hangsOn_92 (by decide) (fun c_28 => ?_) (fun c_28 => ?_)
                                · refine lv_aload_n hx hb dX6_hangsOn_98 rfl (lv_at hl 3 rfl) ?_
                                  refine va_get (D := (dC, dI)) (ci := 6) (v := .ref (a 78)) (C := RX6) (T := TX6) (N := 43) hx hb hts (fun w h => List.mem_cons_of_mem _ (inWX6 w h)) hown hK hP 45 at_45 rfl 41 (by decide) (hts _ (List.mem_cons_of_mem _ kw_t3_82)) (fun _ h9 => h9) rfl dX6_hangsOn_99 ?_
                                  refine lv_iload hx hb dX6_hangsOn_102 (lv_at hl 0 rfl) ?_
                                  refine lv_iconst (v := 1) hx hb dX6_hangsOn_104 (by decide) ?_
                                  refine va_zast hx hb hK hP (mD_of hD hAc) hS 78 1 at_78 rfl (kt_inN ek4 (by omega) (by decide)) dX6_hangsOn_105 (fun H locs hP _ hS => ?_)
                                  obtain ⟨v_29, ev_29⟩ : ∃ z, z = mU w4 78 (upd (w4 78) i4 (vp_nar .boolean 1)) := ⟨_, rfl⟩
                                  have hP : va_P (dC, dI) vwCl (mW cI cZ cS cC cJ a v_29) H := by rw [ev_29]; exact mW_put hP (by omega) (by rw [ek4, nI_clamp (by omega)]; rfl)
                                  have hB := hB.put ev_29 (by decide)
                                  refine lv_iconst (v := 1) hx hb dX6_hangsOn_106 (by decide) ?_
                                  refine lv_istore_n (lv' := [(3, .int 1), (5, .int k4), (4, .int k3), (0, .ref (a 45)), (1, .int p0), (2, .int p1)]) hx hb dX6_hangsOn_107 rfl hl (by decide) rfl (fun ls hl => ?_)
                                  obtain ⟨t_30, et_30⟩ : ∃ y : Int32, y = k4 + 1 := ⟨_, rfl⟩
                                  refine lv_iinc (v := t_30) (lv' := [(5, .int t_30), (3, .int 1), (4, .int k3), (0, .ref (a 45)), (1, .int p0), (2, .int p1)]) hx hb dX6_hangsOn_108 hl (k := 1) rfl (by rw [et_30]; rfl) (by decide) rfl (fun ls hl => ?_)
                                  refine lv_goto (tgt := 44) hx hb dX6_hangsOn_111 (by decide) ?_
                                  exact ih4 (i4 + 1) t_30 1 v_29 _ _ _ (by omega) (by omega) (by rw [et_30, ek4]; exact nI_1 i4) hP hS (lv_sub hl [0, 2, 1, 3, 4, 5] rfl) hB ⟨(fun c hc => by rw [ev_29, mU_ne _ _ hc]; exact hJ4.1 c hc), by rw [ev_29, mU_self]; exact hJ4.2.1.set _ (hS_rch (by omega) (by omega) (fun z9 => c_16 (et_15.trans ((show w4 59 (12 * i3 + i4) = v 59 (12 * i3 + i4) by rw [hJ4.1 59 (by decide)]).trans z9))) (Or.inr ((hJ4.2.1 i3 (by omega)).resolve_left (fun z9 => c_25 (et_24.trans z9))).2)), by rw [ev_29, mU_self]; have := czR_set (f := w4 78) (j := i4) (y := 1) (by decide) (et_27.symm.trans c_28) 12 (by omega); have := hJ4.2.2.1; show czR (upd (w4 78) i4 1) 12 ≤ _; omega, fun _ => by rw [ev_29, mU_self]; have := czR_set (f := w4 78) (j := i4) (y := 1) (by decide) (et_27.symm.trans c_28) 12 (by omega); have := hJ4.2.2.1; show czR (upd (w4 78) i4 1) 12 < _; omega, fun z => absurd z (by decide)⟩
                                · refine lv_goto (tgt := 108) hx hb dX6_hangsOn_95 (by decide) ?_
                                  obtain ⟨t_31, et_31⟩ : ∃ y : Int32, y = k4 + 1 := ⟨_, rfl⟩
                                  refine lv_iinc (v := t_31) (lv' := [(5, .int t_31), (4, .int k3), (3, .int y4_3), (0, .ref (a 45)), (1, .int p0), (2, .int p1)]) hx hb dX6_hangsOn_108 hl (k := 0) rfl (by rw [et_31]; rfl) (by decide) rfl (fun ls hl => ?_)
                                  refine lv_goto (tgt := 44) hx hb dX6_hangsOn_111 (by decide) ?_
                                  exact ih4 (i4 + 1) t_31 y4_3 w4 _ _ _ (by omega) (by omega) (by rw [et_31, ek4]; exact nI_1 i4) hP hS (lv_sub hl [0, 1, 2, 3, 4, 5] rfl) hB ⟨hJ4.1, hJ4.2.1, hJ4.2.2.1, hJ4.2.2.2.1, fun z => ⟨(hJ4.2.2.2.2 z).1, fun y hy => by by_cases h9 : y = i4; (obtain rfl : i4 = y := h9.symm; exact (fun _ _ z2 => c_28 (et_27.trans z2))); exact (hJ4.2.2.2.2 z).2 y (by omega)⟩⟩
                    exact key4 (12 + 1) 0 0 y3_3 w3 _ _ _ (Nat.zero_le _) (by omega) rfl hP hS (lv_sub hl [0, 1, 2, 3, 4, 5] rfl) hB ⟨hJ3.1, hJ3.2.1, hJ3.2.2.1, hJ3.2.2.2.1, fun z => ⟨hJ3.2.2.2.2 z, fun y hy => absurd hy (by omega)⟩⟩
              exact key3 (12 + 1) 0 0 0 w2 _ _ _ (Nat.zero_le _) (by omega) rfl hP hS (lv_sub hl [0, 1, 2, 3, 4] rfl) hB ⟨hJ2.1, hJ2.2.1, Nat.le_refl _, fun z => absurd rfl z, fun _ x hx => absurd hx (by omega)⟩
        exact key2 _ 1 w1 _ _ _ (Nat.lt_succ_self _) hP hS (lv_sub hl [0, 1, 2, 3] rfl) hB ⟨hJ1.1, fun x hx => Or.inl (hJ1.2 x (by have := hxA; omega)), fun z => absurd z (by decide)⟩
      · refine lv_aload_n hx hb dX6_hangsOn_8 rfl (lv_at hl 1 rfl) ?_
        refine va_get (D := (dC, dI)) (ci := 6) (v := .ref (a 78)) (C := RX6) (T := TX6) (N := 43) hx hb hts (fun w h => List.mem_cons_of_mem _ (inWX6 w h)) hown hK hP 45 at_45 rfl 41 (by decide) (hts _ (List.mem_cons_of_mem _ kw_t3_82)) (fun _ h9 => h9) rfl dX6_hangsOn_9 ?_
        refine lv_iload_n hx hb dX6_hangsOn_12 rfl (lv_at hl 0 rfl) ?_
        refine lv_iconst (v := 0) hx hb dX6_hangsOn_13 (by decide) ?_
        have hi_32 : i1 < 12 := kt_lt (N := 12) rfl (by decide) ek1 hi1 c_1
        refine va_zast hx hb hK hP (mD_of hD hAc) hS 78 1 at_78 rfl (kt_inN ek1 (by omega) (by decide)) dX6_hangsOn_14 (fun H locs hP _ hS => ?_)
        obtain ⟨v_33, ev_33⟩ : ∃ z, z = mU w1 78 (upd (w1 78) i1 (vp_nar .boolean 0)) := ⟨_, rfl⟩
        have hP : va_P (dC, dI) vwCl (mW cI cZ cS cC cJ a v_33) H := by rw [ev_33]; exact mW_put hP (by omega) (by rw [ek1, nI_clamp (by omega)]; rfl)
        have hB := hB.put ev_33 (by decide)
        obtain ⟨t_34, et_34⟩ : ∃ y : Int32, y = k1 + 1 := ⟨_, rfl⟩
        refine lv_iinc (v := t_34) (lv' := [(3, .int t_34), (0, .ref (a 45)), (1, .int p0), (2, .int p1)]) hx hb dX6_hangsOn_15 hl (k := 0) rfl (by rw [et_34]; rfl) (by decide) rfl (fun ls hl => ?_)
        refine lv_goto (tgt := 2) hx hb dX6_hangsOn_18 (by decide) ?_
        exact ih1 (i1 + 1) t_34 v_33 _ _ _ (by omega) (by omega) (by rw [et_34, ek1]; exact nI_1 i1) hP hS (lv_sub hl [0, 1, 2, 3] rfl) hB ⟨(fun c hc => by rw [ev_33, mU_ne _ _ hc]; exact hJ1.1 c hc), fun x hx => by rw [ev_33, mU_self]; by_cases z : x = i1; (simp only [upd, if_pos z]; rfl); simp only [upd, if_neg z]; exact hJ1.2 x (by omega)⟩
  exact key1 (12 + 1) 0 0 v _ _ _ (Nat.zero_le _) (by omega) rfl hP hS (lv_sub hl [0, 1, 2, 3] rfl) hB ⟨fun _ _ => rfl, fun x hx => absurd hx (by omega)⟩
end
section
set_option maxHeartbeats 4000000 in
set_option maxRecDepth 100000 in
theorem c_X6_hangs (l : Launch) (dC : Nat → ClassId) (dI : Nat → Nat → Nat) (cI cZ cS cC cJ : ClassId) (a : Nat → Nat) (v : Nat → Nat → Int32) (sz : Nat) (p0 p1 : Int32) (hD : mDD a) (gn : Nat) (hn : gn < 200000) (hB : rB gn v v) (hL : rL v) : Met l yX6_hangs (Cond.code yX6_hangs cX6_hangs 3 (some .boolean) :: WW) ({ frames := 1, cells := 0, slots := 0, locals := 30 }) (va_Pc [.ref (a 45), .int p0, .int p1] (fun U => U.heap.size = sz ∧ va_P (dC, dI) vwCl (mW cI cZ cS cC cJ a v) U.heap ∧ va_K (dC, dI) vwCl [(cI, .int), (cZ, .boolean), (cS, .object RX3), (cC, .object RX0), (cJ, .long)] U ∧ mN U)) (va_Qi (fun (r : Int32) (u : Nat → Nat → Int32) => (rB gn v u) ∧ (rL u) ∧ ((r = 0 ∨ r = 1) ∧ (r = 1 ↔ hgS (v 45 2) (fun x z => v 59 (12 * x + z) ≠ 0) p0 p1))) (fun (u : Nat → Nat → Int32) (t : State) => va_P (dC, dI) vwCl (mW cI cZ cS cC cJ a u) t.heap) (mA a sz)) 0 0 (mA a sz) := by
  refine Met.ofW (cc := cX6_hangs) (maxL := 3) (ret := (some .boolean)) (by decide) rfl ?_
  intro p e s m args below meth c s₁ B hml hv
  obtain ⟨rfl, hsz, hP, hK, hN⟩ := hv
  have hx := B.exec
  have hb := B.bytes
  have hr := B.returns
  have hts := atoms_spec (ws := Cond.code yX6_hangs cX6_hangs 3 (some .boolean) :: WW) B.pre
  have hown : s.vm.findClass RX6 = some m.cls := findClass_of_methodNamed B.named
  have hlocks := B.notSynchronized
  subst hsz
  have hAc : ∀ c, c < 81 → mA a s.heap.size (a c) := fun c h => Or.inl ⟨c, h, rfl⟩
  have hA : ∀ q : Nat, s.heap.size ≤ q → mA a s.heap.size q := fun q h => Or.inr h
  generalize hAe : mA a s.heap.size = A at hAc hA ⊢
  have hS : va_S A s.heap s.heap [] := va_S.rf
  have hl := lv_entry ([.ref (a 45), .int p0, .int p1]) (n := 3) (Nat.le_of_ble_eq_true rfl)
  rw [lg_entry_eq]
  generalize (lg_sl ([.ref (a 45), .int p0, .int p1]) ++ List.replicate (3 - (lg_sl ([.ref (a 45), .int p0, .int p1])).length) Slot.unset).toArray = ls at hl ⊢
  have hl : lv_has ls 3 [(0, .ref (a 45)), (1, .int p0), (2, .int p1)] := hl
  refine lv_aload_n hx hb dX6_hangs_0 rfl (lv_at hl 0 rfl) ?_
  refine lv_iconst (v := 0) hx hb dX6_hangs_1 (by decide) ?_
  refine va_put (D := (dC, dI)) (ci := 6) (v := .int 0) (ty := .int) (C := RX6) (T := TX6) (N := 43) hx hb hts (fun w h => List.mem_cons_of_mem _ (inWX6 w h)) tyX6 tyX6_ok nmX6 hown hK hP (mD_of hD hAc) hS 45 at_45 rfl 0 (by decide) (hts _ (List.mem_cons_of_mem _ kw_t3_41)) (fun _ h9 => h9) rfl (by decide +kernel) rfl rfl (Nat.le_of_ble_eq_true rfl) dX6_hangs_2 (fun H locs hP _ hS => ?_)
  obtain ⟨v_1, ev_1⟩ : ∃ z, z = mU v 45 (upd (v 45) 0 0) := ⟨_, rfl⟩
  have hP : va_P (dC, dI) vwCl (mW cI cZ cS cC cJ a v_1) H := by rw [ev_1]; exact mW_put hP (by omega) rfl
  have hB := hB.putO ev_1 (by decide)
  have hL := hL.putM ev_1 (by decide)
  refine lv_aload_n hx hb dX6_hangs_5 rfl (lv_at hl 0 rfl) ?_
  refine lv_iload_n hx hb dX6_hangs_6 rfl (lv_at hl 1 rfl) ?_
  have hFc := mA_free (a := a) hS hA hAc
  refine va_calli (va_runV (As := [.int p0]) (rest := []) ⟨hx, hb, hml, hown, hts⟩ (c_X6_isSecret l dC dI cI cZ cS cC cJ a v_1 H.size p0 hD gn (by omega) hB.self) (cwV 1 hts (gV (fun w h => List.mem_cons_of_mem _ h) kw_t3_183 kw_t3_185 kw_s0_12 kw_t1_7 kw_t3_186) rfl rfl rfl (by decide +kernel) ⟨Nat.le_of_ble_eq_true rfl, Nat.le_of_ble_eq_true rfl⟩) ⟨fun av U g mk q => by obtain ⟨q0, q1, qP, qK, qN⟩ := q; exact ⟨q0, q1, qP, va_K.moved (u := U) (U := U.calling g mk av) (Vm.Alike.refl U.vm) qK, mN_same qN⟩, va_recv hK hP (ci := 6) (q0 := 45) rfl at_45, fun U hU hW => ⟨rfl, by rw [hU], by rw [hU]; exact hP, va_K.moved hW.alike hK, mN_warm hW hN⟩⟩ rfl rfl hl.1 rfl (lv_room (Nat.le_of_ble_eq_true rfl)) dX6_hangs_7 ⟨Nat.le_of_ble_eq_true rfl, Nat.le_of_ble_eq_true rfl⟩) hS (fun q _ h => hFc q h) hFc (fun r_2 _ t H locs ht hvm hw_2 hP _ _ hS => ?_)
  have hP := kt_heap2 ht hP
  clear ht hFc
  have hP : va_P (dC, dI) vwCl (mW cI cZ cS cC cJ a v_1) H := hP
  rcases hw_2 with ⟨hz_3, hns_3⟩ | ⟨hz_3, ix_3, hx_3, ex_3, hlt_3⟩
  · subst hz_3
    refine lv_if_eq (tgt := 34) hx hb dX6_hangs_10 (by decide) (fun c_4 => ?_) (fun c_4 => absurd (by decide) c_4)
    refine lv_iconst (v := 0) hx hb dX6_hangs_34 (by decide) ?_
    have e29 : v_1 45 2 = v 45 2 := by rw [ev_1, mU_self]; rfl
    have e99 : v 59 = v_1 59 := Eq.symm (by rw [ev_1, mU_ne _ _ (by first | decide | omega)])
    exact W.zret (v := 0) (ty := .boolean) hx hb hr rfl (fun t ht hW => ⟨⟨0, v_1, rfl, ⟨hB, hL, ⟨Or.inl rfl, ⟨fun z => absurd z (by decide), fun z => absurd z.1 (by rw [← e29]; exact hns_3)⟩⟩⟩, kt_heap ht hP⟩, hS.F ht⟩) hS.2.2 dX6_hangs_35
  · subst hz_3
    refine lv_if_eq (tgt := 34) hx hb dX6_hangs_10 (by decide) (fun c_5 => absurd c_5 (by decide)) (fun c_5 => ?_)
    refine lv_aload_n hx hb dX6_hangs_13 rfl (lv_at hl 0 rfl) ?_
    refine lv_iload_n hx hb dX6_hangs_14 rfl (lv_at hl 2 rfl) ?_
    have hFc := mA_free (a := a) hS hA hAc
    refine va_calli (va_runV (As := [.int p1]) (rest := []) ⟨hx, hb, hml, hown, hts⟩ (c_X6_isSecret l dC dI cI cZ cS cC cJ a v_1 H.size p1 hD gn (by omega) hB.self) (cwV 1 hts (gV (fun w h => List.mem_cons_of_mem _ h) kw_t3_183 kw_t3_185 kw_s0_12 kw_t1_7 kw_t3_186) rfl rfl rfl (by decide +kernel) ⟨Nat.le_of_ble_eq_true rfl, Nat.le_of_ble_eq_true rfl⟩) ⟨fun av U g mk q => by obtain ⟨q0, q1, qP, qK, qN⟩ := q; exact ⟨q0, q1, qP, va_K.moved (u := U) (U := U.calling g mk av) (Vm.Alike.refl U.vm) qK, mN_same qN⟩, va_recv hK hP (ci := 6) (q0 := 45) rfl at_45, fun U hU hW => ⟨rfl, by rw [hU], by rw [hU]; exact hP, va_K.moved hW.alike hK, mN_warm hW hN⟩⟩ rfl rfl hl.1 rfl (lv_room (Nat.le_of_ble_eq_true rfl)) dX6_hangs_15 ⟨Nat.le_of_ble_eq_true rfl, Nat.le_of_ble_eq_true rfl⟩) hS (fun q _ h => hFc q h) hFc (fun r_6 _ t H locs ht hvm hw_6 hP _ _ hS => ?_)
    have hP := kt_heap2 ht hP
    clear ht hFc
    have hP : va_P (dC, dI) vwCl (mW cI cZ cS cC cJ a v_1) H := hP
    rcases hw_6 with ⟨hz_7, hns_7⟩ | ⟨hz_7, ix_7, hx_7, ex_7, hlt_7⟩
    · subst hz_7
      refine lv_if_eq (tgt := 34) hx hb dX6_hangs_18 (by decide) (fun c_8 => ?_) (fun c_8 => absurd (by decide) c_8)
      refine lv_iconst (v := 0) hx hb dX6_hangs_34 (by decide) ?_
      have e29 : v_1 45 2 = v 45 2 := by rw [ev_1, mU_self]; rfl
      have e99 : v 59 = v_1 59 := Eq.symm (by rw [ev_1, mU_ne _ _ (by first | decide | omega)])
      exact W.zret (v := 0) (ty := .boolean) hx hb hr rfl (fun t ht hW => ⟨⟨0, v_1, rfl, ⟨hB, hL, ⟨Or.inl rfl, ⟨fun z => absurd z (by decide), fun z => absurd z.2.1 (by rw [← e29]; exact hns_7)⟩⟩⟩, kt_heap ht hP⟩, hS.F ht⟩) hS.2.2 dX6_hangs_35
    · subst hz_7
      refine lv_if_eq (tgt := 34) hx hb dX6_hangs_18 (by decide) (fun c_9 => absurd c_9 (by decide)) (fun c_9 => ?_)
      refine lv_aload_n hx hb dX6_hangs_21 rfl (lv_at hl 0 rfl) ?_
      refine lv_iload_n hx hb dX6_hangs_22 rfl (lv_at hl 1 rfl) ?_
      refine lv_iload_n hx hb dX6_hangs_23 rfl (lv_at hl 2 rfl) ?_
      have hFc := mA_free (a := a) hS hA hAc
      refine va_calli (va_runV (As := [.int p0, .int p1]) (rest := []) ⟨hx, hb, hml, hown, hts⟩ (c_X6_hangsOn l dC dI cI cZ cS cC cJ a v_1 H.size p0 p1 hD gn (by omega) hB.self ix_3 (by omega) ex_3 ix_7 (by omega) ex_7) (cwV 2 hts (gV (fun w h => List.mem_cons_of_mem _ h) kw_t3_187 kw_t3_189 kw_s0_13 kw_t1_7 kw_t3_190) rfl rfl rfl (by decide +kernel) ⟨Nat.le_of_ble_eq_true rfl, Nat.le_of_ble_eq_true rfl⟩) ⟨fun av U g mk q => by obtain ⟨q0, q1, qP, qK, qN⟩ := q; exact ⟨q0, q1, qP, va_K.moved (u := U) (U := U.calling g mk av) (Vm.Alike.refl U.vm) qK, mN_same qN⟩, va_recv hK hP (ci := 6) (q0 := 45) rfl at_45, fun U hU hW => ⟨rfl, by rw [hU], by rw [hU]; exact hP, va_K.moved hW.alike hK, mN_warm hW hN⟩⟩ rfl rfl hl.1 rfl (lv_room (Nat.le_of_ble_eq_true rfl)) dX6_hangs_24 ⟨Nat.le_of_ble_eq_true rfl, Nat.le_of_ble_eq_true rfl⟩) hS (fun q _ h => hFc q h) hFc (fun r_10 v_10 t H locs ht hvm hw_10 hP _ _ hS => ?_)
      have hP := kt_heap2 ht hP
      clear ht hFc
      have hP : va_P (dC, dI) vwCl (mW cI cZ cS cC cJ a v_10) H := hP
      have ev_10 := kt_only hw_10.1
      have hB := hB.put ev_10 (by decide)
      have hL := hL.put ev_10 (by decide)
      refine lv_if_eq (tgt := 34) hx hb dX6_hangs_27 (by decide) (fun c_11 => ?_) (fun c_11 => ?_)
      · refine lv_iconst (v := 0) hx hb dX6_hangs_34 (by decide) ?_
        have e29 : v_1 45 2 = v 45 2 := by rw [ev_1, mU_self]; rfl
        have e99 : v 59 = v_1 59 := Eq.symm (by rw [ev_1, mU_ne _ _ (by first | decide | omega)])
        have ck0 : ck p0 = ix_3 := ck_of ex_3 (by omega)
        have ck1 : ck p1 = ix_7 := ck_of ex_7 (by omega)
        have is0 : isS (v 45 2) p0 := isS_of ex_3 (by omega) (by rw [← e29]; exact hlt_3)
        have is1 : isS (v 45 2) p1 := isS_of ex_7 (by omega) (by rw [← e29]; exact hlt_7)
        exact W.zret (v := 0) (ty := .boolean) hx hb hr rfl (fun t ht hW => ⟨⟨0, v_10, rfl, ⟨hB, hL, ⟨Or.inl rfl, ⟨fun z => absurd z (by decide), fun z => absurd (hw_10.2.2.2.2.mpr (by have z9 := z.2.2; rw [ck0, ck1, e99] at z9; exact z9)) (by rw [c_11]; decide)⟩⟩⟩, kt_heap ht hP⟩, hS.F ht⟩) hS.2.2 dX6_hangs_35
      · refine lv_iconst (v := 1) hx hb dX6_hangs_30 (by decide) ?_
        refine lv_goto (tgt := 35) hx hb dX6_hangs_31 (by decide) ?_
        have e29 : v_1 45 2 = v 45 2 := by rw [ev_1, mU_self]; rfl
        have e99 : v 59 = v_1 59 := Eq.symm (by rw [ev_1, mU_ne _ _ (by first | decide | omega)])
        have ck0 : ck p0 = ix_3 := ck_of ex_3 (by omega)
        have ck1 : ck p1 = ix_7 := ck_of ex_7 (by omega)
        have is0 : isS (v 45 2) p0 := isS_of ex_3 (by omega) (by rw [← e29]; exact hlt_3)
        have is1 : isS (v 45 2) p1 := isS_of ex_7 (by omega) (by rw [← e29]; exact hlt_7)
        exact W.zret (v := 1) (ty := .boolean) hx hb hr rfl (fun t ht hW => ⟨⟨1, v_10, rfl, ⟨hB, hL, ⟨Or.inr rfl, ⟨fun _ => ⟨is0, is1, by rw [ck0, ck1, e99]; exact hw_10.2.2.2.2.mp (hw_10.2.2.1.resolve_left c_11)⟩, fun _ => rfl⟩⟩⟩, kt_heap ht hP⟩, hS.F ht⟩) hS.2.2 dX6_hangs_35

set_option maxHeartbeats 4000000 in
set_option maxRecDepth 100000 in
theorem c_X6_needs (l : Launch) (dC : Nat → ClassId) (dI : Nat → Nat → Nat) (cI cZ cS cC cJ : ClassId) (a : Nat → Nat) (v : Nat → Nat → Int32) (sz : Nat) (p0 p1 p2 : Int32) (hD : mDD a) (gn : Nat) (hn : gn < 200000) (hB : rB gn v v) (hL : rL v) : Met l yX6_needs (Cond.code yX6_needs cX6_needs 4 (some .boolean) :: WW) ({ frames := 1, cells := 0, slots := 0, locals := 30 }) (va_Pc [.ref (a 45), .int p0, .int p1, .int p2] (fun U => U.heap.size = sz ∧ va_P (dC, dI) vwCl (mW cI cZ cS cC cJ a v) U.heap ∧ va_K (dC, dI) vwCl [(cI, .int), (cZ, .boolean), (cS, .object RX3), (cC, .object RX0), (cJ, .long)] U ∧ mN U)) (va_Qi (fun (r : Int32) (u : Nat → Nat → Int32) => (rA gn v u) ∧ (rL u) ∧ ((u 45 1 = v 45 1 ∧ u 45 2 = v 45 2 ∧ u 60 = v 60) ∧ ((r = 0 ∧ u 59 = v 59 ∧ ¬ okR (v 45 2) (v 59) p0 p1 p2) ∨ (r = 1 ∧ okR (v 45 2) (v 59) p0 p1 p2 ∧ u 59 = upd (v 59) (12 * ck p0 + ck p1) (vp_nar .boolean p2))))) (fun (u : Nat → Nat → Int32) (t : State) => va_P (dC, dI) vwCl (mW cI cZ cS cC cJ a u) t.heap) (mA a sz)) 0 0 (mA a sz) := by
  refine Met.ofW (cc := cX6_needs) (maxL := 4) (ret := (some .boolean)) (by decide) rfl ?_
  intro p e s m args below meth c s₁ B hml hv
  obtain ⟨rfl, hsz, hP, hK, hN⟩ := hv
  have hx := B.exec
  have hb := B.bytes
  have hr := B.returns
  have hts := atoms_spec (ws := Cond.code yX6_needs cX6_needs 4 (some .boolean) :: WW) B.pre
  have hown : s.vm.findClass RX6 = some m.cls := findClass_of_methodNamed B.named
  have hlocks := B.notSynchronized
  subst hsz
  have hAc : ∀ c, c < 81 → mA a s.heap.size (a c) := fun c h => Or.inl ⟨c, h, rfl⟩
  have hA : ∀ q : Nat, s.heap.size ≤ q → mA a s.heap.size q := fun q h => Or.inr h
  generalize hAe : mA a s.heap.size = A at hAc hA ⊢
  have hS : va_S A s.heap s.heap [] := va_S.rf
  have hl := lv_entry ([.ref (a 45), .int p0, .int p1, .int p2]) (n := 4) (Nat.le_of_ble_eq_true rfl)
  rw [lg_entry_eq]
  generalize (lg_sl ([.ref (a 45), .int p0, .int p1, .int p2]) ++ List.replicate (4 - (lg_sl ([.ref (a 45), .int p0, .int p1, .int p2])).length) Slot.unset).toArray = ls at hl ⊢
  have hl : lv_has ls 4 [(0, .ref (a 45)), (1, .int p0), (2, .int p1), (3, .int p2)] := hl
  have hB := hB.toA
  refine lv_aload_n hx hb dX6_needs_0 rfl (lv_at hl 0 rfl) ?_
  refine lv_iconst (v := 0) hx hb dX6_needs_1 (by decide) ?_
  refine va_put (D := (dC, dI)) (ci := 6) (v := .int 0) (ty := .int) (C := RX6) (T := TX6) (N := 43) hx hb hts (fun w h => List.mem_cons_of_mem _ (inWX6 w h)) tyX6 tyX6_ok nmX6 hown hK hP (mD_of hD hAc) hS 45 at_45 rfl 0 (by decide) (hts _ (List.mem_cons_of_mem _ kw_t3_41)) (fun _ h9 => h9) rfl (by decide +kernel) rfl rfl (Nat.le_of_ble_eq_true rfl) dX6_needs_2 (fun H locs hP _ hS => ?_)
  obtain ⟨v_1, ev_1⟩ : ∃ z, z = mU v 45 (upd (v 45) 0 0) := ⟨_, rfl⟩
  have hP : va_P (dC, dI) vwCl (mW cI cZ cS cC cJ a v_1) H := by rw [ev_1]; exact mW_put hP (by omega) rfl
  have hB := hB.putO ev_1 (by decide)
  have hL := hL.putM ev_1 (by decide)
  refine lv_aload_n hx hb dX6_needs_5 rfl (lv_at hl 0 rfl) ?_
  refine lv_iload_n hx hb dX6_needs_6 rfl (lv_at hl 1 rfl) ?_
  have hFc := mA_free (a := a) hS hA hAc
  refine va_calli (va_runV (As := [.int p0]) (rest := []) ⟨hx, hb, hml, hown, hts⟩ (c_X6_isSecret l dC dI cI cZ cS cC cJ a v_1 H.size p0 hD gn (by omega) hB.self) (cwV 1 hts (gV (fun w h => List.mem_cons_of_mem _ h) kw_t3_183 kw_t3_185 kw_s0_12 kw_t1_7 kw_t3_186) rfl rfl rfl (by decide +kernel) ⟨Nat.le_of_ble_eq_true rfl, Nat.le_of_ble_eq_true rfl⟩) ⟨fun av U g mk q => by obtain ⟨q0, q1, qP, qK, qN⟩ := q; exact ⟨q0, q1, qP, va_K.moved (u := U) (U := U.calling g mk av) (Vm.Alike.refl U.vm) qK, mN_same qN⟩, va_recv hK hP (ci := 6) (q0 := 45) rfl at_45, fun U hU hW => ⟨rfl, by rw [hU], by rw [hU]; exact hP, va_K.moved hW.alike hK, mN_warm hW hN⟩⟩ rfl rfl hl.1 rfl (lv_room (Nat.le_of_ble_eq_true rfl)) dX6_needs_7 ⟨Nat.le_of_ble_eq_true rfl, Nat.le_of_ble_eq_true rfl⟩) hS (fun q _ h => hFc q h) hFc (fun r_2 _ t H locs ht hvm hw_2 hP _ _ hS => ?_)
  have hP := kt_heap2 ht hP
  clear ht hFc
  have hP : va_P (dC, dI) vwCl (mW cI cZ cS cC cJ a v_1) H := hP
  rcases hw_2 with ⟨hz_3, hns_3⟩ | ⟨hz_3, ix_3, hx_3, ex_3, hlt_3⟩
  · subst hz_3
    refine lv_if_eq (tgt := 54) hx hb dX6_needs_10 (by decide) (fun c_4 => ?_) (fun c_4 => absurd (by decide) c_4)
    refine lv_iconst (v := 0) hx hb dX6_needs_54 (by decide) ?_
    have e29 : v_1 45 2 = v 45 2 := by rw [ev_1, mU_self]; rfl
    have e99 : v 59 = v_1 59 := Eq.symm (by rw [ev_1, mU_ne _ _ (by first | decide | omega)])
    exact W.zret (v := 0) (ty := .boolean) hx hb hr rfl (fun t ht hW => ⟨⟨0, v_1, rfl, ⟨hB, hL, ⟨⟨by rw [ev_1, mU_self]; rfl, by rw [ev_1, mU_self]; rfl, (by rw [ev_1, mU_ne _ _ (by first | decide | omega)])⟩, Or.inl ⟨rfl, (by rw [ev_1, mU_ne _ _ (by first | decide | omega)]), fun z => absurd z.1 (by rw [← e29]; exact hns_3)⟩⟩⟩, kt_heap ht hP⟩, hS.F ht⟩) hS.2.2 dX6_needs_55
  · subst hz_3
    refine lv_if_eq (tgt := 54) hx hb dX6_needs_10 (by decide) (fun c_5 => absurd c_5 (by decide)) (fun c_5 => ?_)
    refine lv_aload_n hx hb dX6_needs_13 rfl (lv_at hl 0 rfl) ?_
    refine lv_iload_n hx hb dX6_needs_14 rfl (lv_at hl 2 rfl) ?_
    have hFc := mA_free (a := a) hS hA hAc
    refine va_calli (va_runV (As := [.int p1]) (rest := []) ⟨hx, hb, hml, hown, hts⟩ (c_X6_isSecret l dC dI cI cZ cS cC cJ a v_1 H.size p1 hD gn (by omega) hB.self) (cwV 1 hts (gV (fun w h => List.mem_cons_of_mem _ h) kw_t3_183 kw_t3_185 kw_s0_12 kw_t1_7 kw_t3_186) rfl rfl rfl (by decide +kernel) ⟨Nat.le_of_ble_eq_true rfl, Nat.le_of_ble_eq_true rfl⟩) ⟨fun av U g mk q => by obtain ⟨q0, q1, qP, qK, qN⟩ := q; exact ⟨q0, q1, qP, va_K.moved (u := U) (U := U.calling g mk av) (Vm.Alike.refl U.vm) qK, mN_same qN⟩, va_recv hK hP (ci := 6) (q0 := 45) rfl at_45, fun U hU hW => ⟨rfl, by rw [hU], by rw [hU]; exact hP, va_K.moved hW.alike hK, mN_warm hW hN⟩⟩ rfl rfl hl.1 rfl (lv_room (Nat.le_of_ble_eq_true rfl)) dX6_needs_15 ⟨Nat.le_of_ble_eq_true rfl, Nat.le_of_ble_eq_true rfl⟩) hS (fun q _ h => hFc q h) hFc (fun r_6 _ t H locs ht hvm hw_6 hP _ _ hS => ?_)
    have hP := kt_heap2 ht hP
    clear ht hFc
    have hP : va_P (dC, dI) vwCl (mW cI cZ cS cC cJ a v_1) H := hP
    rcases hw_6 with ⟨hz_7, hns_7⟩ | ⟨hz_7, ix_7, hx_7, ex_7, hlt_7⟩
    · subst hz_7
      refine lv_if_eq (tgt := 54) hx hb dX6_needs_18 (by decide) (fun c_8 => ?_) (fun c_8 => absurd (by decide) c_8)
      refine lv_iconst (v := 0) hx hb dX6_needs_54 (by decide) ?_
      have e29 : v_1 45 2 = v 45 2 := by rw [ev_1, mU_self]; rfl
      have e99 : v 59 = v_1 59 := Eq.symm (by rw [ev_1, mU_ne _ _ (by first | decide | omega)])
      exact W.zret (v := 0) (ty := .boolean) hx hb hr rfl (fun t ht hW => ⟨⟨0, v_1, rfl, ⟨hB, hL, ⟨⟨by rw [ev_1, mU_self]; rfl, by rw [ev_1, mU_self]; rfl, (by rw [ev_1, mU_ne _ _ (by first | decide | omega)])⟩, Or.inl ⟨rfl, (by rw [ev_1, mU_ne _ _ (by first | decide | omega)]), fun z => absurd z.2.1 (by rw [← e29]; exact hns_7)⟩⟩⟩, kt_heap ht hP⟩, hS.F ht⟩) hS.2.2 dX6_needs_55
    · subst hz_7
      refine lv_if_eq (tgt := 54) hx hb dX6_needs_18 (by decide) (fun c_9 => absurd c_9 (by decide)) (fun c_9 => ?_)
      refine lv_aload_n hx hb dX6_needs_21 rfl (lv_at hl 0 rfl) ?_
      refine va_get (D := (dC, dI)) (ci := 6) (v := .ref (a 59)) (C := RX6) (T := TX6) (N := 43) hx hb hts (fun w h => List.mem_cons_of_mem _ (inWX6 w h)) hown hK hP 45 at_45 rfl 22 (by decide) (hts _ (List.mem_cons_of_mem _ kw_t3_63)) (fun _ h9 => h9) rfl dX6_needs_22 ?_
      refine lv_bipush (v := 12) hx hb dX6_needs_25 (by decide) ?_
      refine lv_iload_n hx hb dX6_needs_27 rfl (lv_at hl 1 rfl) ?_
      refine lv_imul hx hb dX6_needs_28 ?_
      refine lv_topi (fun t_10 et_10 => ?_)
      refine lv_iload_n hx hb dX6_needs_29 rfl (lv_at hl 2 rfl) ?_
      refine lv_iadd hx hb dX6_needs_30 ?_
      refine lv_topi (fun t_11 et_11 => ?_)
      have hm_12 : t_11 = nI (12 * ix_3 + ix_7) := kt_mad (C := 12) rfl ex_3 ex_7 et_10 et_11
      refine va_zald hx hb hK hP 59 1 at_59 rfl (kt_inN hm_12 (by omega) (by decide)) dX6_needs_31 ?_
      refine lv_topi (fun t_13 et_13 => ?_)
      rw [hm_12, nI_clamp (by omega)] at et_13
      refine lv_iload_n hx hb dX6_needs_32 rfl (lv_at hl 3 rfl) ?_
      refine lv_icmp_eq (tgt := 54) hx hb dX6_needs_33 (by decide) (fun c_14 => ?_) (fun c_14 => ?_)
      · refine lv_iconst (v := 0) hx hb dX6_needs_54 (by decide) ?_
        have e29 : v_1 45 2 = v 45 2 := by rw [ev_1, mU_self]; rfl
        have e99 : v 59 = v_1 59 := Eq.symm (by rw [ev_1, mU_ne _ _ (by first | decide | omega)])
        have ck0 : ck p0 = ix_3 := ck_of ex_3 (by omega)
        have ck1 : ck p1 = ix_7 := ck_of ex_7 (by omega)
        have is0 : isS (v 45 2) p0 := isS_of ex_3 (by omega) (by rw [← e29]; exact hlt_3)
        have is1 : isS (v 45 2) p1 := isS_of ex_7 (by omega) (by rw [← e29]; exact hlt_7)
        exact W.zret (v := 0) (ty := .boolean) hx hb hr rfl (fun t ht hW => ⟨⟨0, v_1, rfl, ⟨hB, hL, ⟨⟨by rw [ev_1, mU_self]; rfl, by rw [ev_1, mU_self]; rfl, (by rw [ev_1, mU_ne _ _ (by first | decide | omega)])⟩, Or.inl ⟨rfl, (by rw [ev_1, mU_ne _ _ (by first | decide | omega)]), fun z => z.2.2.1 (by rw [ck0, ck1, e99, ← et_13]; exact c_14)⟩⟩⟩, kt_heap ht hP⟩, hS.F ht⟩) hS.2.2 dX6_needs_55
      · refine lv_iload_n hx hb dX6_needs_36 rfl (lv_at hl 3 rfl) ?_
        refine lv_if_eq (tgt := 56) hx hb dX6_needs_37 (by decide) (fun c_15 => ?_) (fun c_15 => ?_)
        · refine lv_aload_n hx hb dX6_needs_56 rfl (lv_at hl 0 rfl) ?_
          refine va_get (D := (dC, dI)) (ci := 6) (v := .ref (a 59)) (C := RX6) (T := TX6) (N := 43) hx hb hts (fun w h => List.mem_cons_of_mem _ (inWX6 w h)) hown hK hP 45 at_45 rfl 22 (by decide) (hts _ (List.mem_cons_of_mem _ kw_t3_63)) (fun _ h9 => h9) rfl dX6_needs_57 ?_
          refine lv_bipush (v := 12) hx hb dX6_needs_60 (by decide) ?_
          refine lv_iload_n hx hb dX6_needs_62 rfl (lv_at hl 1 rfl) ?_
          refine lv_imul hx hb dX6_needs_63 ?_
          refine lv_topi (fun t_16 et_16 => ?_)
          refine lv_iload_n hx hb dX6_needs_64 rfl (lv_at hl 2 rfl) ?_
          refine lv_iadd hx hb dX6_needs_65 ?_
          refine lv_topi (fun t_17 et_17 => ?_)
          refine lv_iload_n hx hb dX6_needs_66 rfl (lv_at hl 3 rfl) ?_
          have hm_18 : t_17 = nI (12 * ix_3 + ix_7) := kt_mad (C := 12) rfl ex_3 ex_7 et_16 et_17
          refine va_zast hx hb hK hP (mD_of hD hAc) hS 59 1 at_59 rfl (kt_inN hm_18 (by omega) (by decide)) dX6_needs_67 (fun H locs hP _ hS => ?_)
          obtain ⟨v_19, ev_19⟩ : ∃ z, z = mU v_1 59 (upd (v_1 59) (12 * ix_3 + ix_7) (vp_nar .boolean p2)) := ⟨_, rfl⟩
          have hP : va_P (dC, dI) vwCl (mW cI cZ cS cC cJ a v_19) H := by rw [ev_19]; exact mW_put hP (by omega) (by rw [hm_18, nI_clamp (by omega)]; rfl)
          have hB := hB.put59 ev_19 (by rw [show vp_nar .boolean p2 = 0 by rw [c_15]; rfl]; exact hB.nd.del _)
          have hL := hL.put ev_19 (by decide)
          refine lv_iconst (v := 1) hx hb dX6_needs_68 (by decide) ?_
          have e29 : v_1 45 2 = v 45 2 := by rw [ev_1, mU_self]; rfl
          have e99 : v 59 = v_1 59 := Eq.symm (by rw [ev_1, mU_ne _ _ (by first | decide | omega)])
          have ck0 : ck p0 = ix_3 := ck_of ex_3 (by omega)
          have ck1 : ck p1 = ix_7 := ck_of ex_7 (by omega)
          have is0 : isS (v 45 2) p0 := isS_of ex_3 (by omega) (by rw [← e29]; exact hlt_3)
          have is1 : isS (v 45 2) p1 := isS_of ex_7 (by omega) (by rw [← e29]; exact hlt_7)
          exact W.zret (v := 1) (ty := .boolean) hx hb hr rfl (fun t ht hW => ⟨⟨1, v_19, rfl, ⟨hB, hL, ⟨⟨by rw [ev_19, mU_ne _ _ (by decide), ev_1, mU_self]; rfl, by rw [ev_19, mU_ne _ _ (by decide), ev_1, mU_self]; rfl, (by rw [ev_19, mU_ne _ _ (by first | decide | omega), ev_1, mU_ne _ _ (by first | decide | omega)])⟩, Or.inr ⟨rfl, ⟨is0, is1, fun z => c_14 (by rw [et_13, ← e99, ← ck0, ← ck1]; exact z), fun z => absurd c_15 z⟩, by rw [ev_19, mU_self, show v_1 59 = v 59 from (by rw [ev_1, mU_ne _ _ (by first | decide | omega)]), ck0, ck1]⟩⟩⟩, kt_heap ht hP⟩, hS.F ht⟩) hS.2.2 dX6_needs_69
        · refine lv_iload_n hx hb dX6_needs_40 rfl (lv_at hl 1 rfl) ?_
          refine lv_iload_n hx hb dX6_needs_41 rfl (lv_at hl 2 rfl) ?_
          refine lv_icmp_eq (tgt := 54) hx hb dX6_needs_42 (by decide) (fun c_20 => ?_) (fun c_20 => ?_)
          · refine lv_iconst (v := 0) hx hb dX6_needs_54 (by decide) ?_
            have e29 : v_1 45 2 = v 45 2 := by rw [ev_1, mU_self]; rfl
            have e99 : v 59 = v_1 59 := Eq.symm (by rw [ev_1, mU_ne _ _ (by first | decide | omega)])
            have ck0 : ck p0 = ix_3 := ck_of ex_3 (by omega)
            have ck1 : ck p1 = ix_7 := ck_of ex_7 (by omega)
            have is0 : isS (v 45 2) p0 := isS_of ex_3 (by omega) (by rw [← e29]; exact hlt_3)
            have is1 : isS (v 45 2) p1 := isS_of ex_7 (by omega) (by rw [← e29]; exact hlt_7)
            exact W.zret (v := 0) (ty := .boolean) hx hb hr rfl (fun t ht hW => ⟨⟨0, v_1, rfl, ⟨hB, hL, ⟨⟨by rw [ev_1, mU_self]; rfl, by rw [ev_1, mU_self]; rfl, (by rw [ev_1, mU_ne _ _ (by first | decide | omega)])⟩, Or.inl ⟨rfl, (by rw [ev_1, mU_ne _ _ (by first | decide | omega)]), fun z => (z.2.2.2 c_15).1 c_20⟩⟩⟩, kt_heap ht hP⟩, hS.F ht⟩) hS.2.2 dX6_needs_55
          · refine lv_aload_n hx hb dX6_needs_45 rfl (lv_at hl 0 rfl) ?_
            refine lv_iload_n hx hb dX6_needs_46 rfl (lv_at hl 2 rfl) ?_
            refine lv_iload_n hx hb dX6_needs_47 rfl (lv_at hl 1 rfl) ?_
            have hFc := mA_free (a := a) hS hA hAc
            refine va_calli (va_runV (As := [.int p1, .int p0]) (rest := []) ⟨hx, hb, hml, hown, hts⟩ (c_X6_hangsOn l dC dI cI cZ cS cC cJ a v_1 H.size p1 p0 hD gn (by omega) hB.self ix_7 (by omega) ex_7 ix_3 (by omega) ex_3) (cwV 2 hts (gV (fun w h => List.mem_cons_of_mem _ h) kw_t3_187 kw_t3_189 kw_s0_13 kw_t1_7 kw_t3_190) rfl rfl rfl (by decide +kernel) ⟨Nat.le_of_ble_eq_true rfl, Nat.le_of_ble_eq_true rfl⟩) ⟨fun av U g mk q => by obtain ⟨q0, q1, qP, qK, qN⟩ := q; exact ⟨q0, q1, qP, va_K.moved (u := U) (U := U.calling g mk av) (Vm.Alike.refl U.vm) qK, mN_same qN⟩, va_recv hK hP (ci := 6) (q0 := 45) rfl at_45, fun U hU hW => ⟨rfl, by rw [hU], by rw [hU]; exact hP, va_K.moved hW.alike hK, mN_warm hW hN⟩⟩ rfl rfl hl.1 rfl (lv_room (Nat.le_of_ble_eq_true rfl)) dX6_needs_48 ⟨Nat.le_of_ble_eq_true rfl, Nat.le_of_ble_eq_true rfl⟩) hS (fun q _ h => hFc q h) hFc (fun r_21 v_21 t H locs ht hvm hw_21 hP _ _ hS => ?_)
            have hP := kt_heap2 ht hP
            clear ht hFc
            have hP : va_P (dC, dI) vwCl (mW cI cZ cS cC cJ a v_21) H := hP
            have ev_21 := kt_only hw_21.1
            have hB := hB.put ev_21 (by decide)
            have hL := hL.put ev_21 (by decide)
            refine lv_if_eq (tgt := 56) hx hb dX6_needs_51 (by decide) (fun c_22 => ?_) (fun c_22 => ?_)
            · refine lv_aload_n hx hb dX6_needs_56 rfl (lv_at hl 0 rfl) ?_
              refine va_get (D := (dC, dI)) (ci := 6) (v := .ref (a 59)) (C := RX6) (T := TX6) (N := 43) hx hb hts (fun w h => List.mem_cons_of_mem _ (inWX6 w h)) hown hK hP 45 at_45 rfl 22 (by decide) (hts _ (List.mem_cons_of_mem _ kw_t3_63)) (fun _ h9 => h9) rfl dX6_needs_57 ?_
              refine lv_bipush (v := 12) hx hb dX6_needs_60 (by decide) ?_
              refine lv_iload_n hx hb dX6_needs_62 rfl (lv_at hl 1 rfl) ?_
              refine lv_imul hx hb dX6_needs_63 ?_
              refine lv_topi (fun t_23 et_23 => ?_)
              refine lv_iload_n hx hb dX6_needs_64 rfl (lv_at hl 2 rfl) ?_
              refine lv_iadd hx hb dX6_needs_65 ?_
              refine lv_topi (fun t_24 et_24 => ?_)
              refine lv_iload_n hx hb dX6_needs_66 rfl (lv_at hl 3 rfl) ?_
              have hm_25 : t_24 = nI (12 * ix_3 + ix_7) := kt_mad (C := 12) rfl ex_3 ex_7 et_23 et_24
              refine va_zast hx hb hK hP (mD_of hD hAc) hS 59 1 at_59 rfl (kt_inN hm_25 (by omega) (by decide)) dX6_needs_67 (fun H locs hP _ hS => ?_)
              obtain ⟨v_26, ev_26⟩ : ∃ z, z = mU v_21 59 (upd (v_21 59) (12 * ix_3 + ix_7) (vp_nar .boolean p2)) := ⟨_, rfl⟩
              have hP : va_P (dC, dI) vwCl (mW cI cZ cS cC cJ a v_26) H := by rw [ev_26]; exact mW_put hP (by omega) (by rw [hm_25, nI_clamp (by omega)]; rfl)
              have hB := hB.put59 ev_26 (by have e45 : v_21 45 = v_1 45 := (by rw [ev_21, mU_ne _ _ (by first | decide | omega)]); have e59 : v_21 59 = v_1 59 := (by rw [ev_21, mU_ne _ _ (by first | decide | omega)]); refine rN.add hB.nd (by rw [e45]; exact hlt_3) (by rw [e45]; exact hlt_7) hB.sc.2 (fun z => c_20 (by rw [ex_3, ex_7, z])) (fun x y hx hy => by rw [e59]; exact hw_21.2.2.2.1 x y (by rw [← e45]; exact hx) (by rw [← e45]; exact hy)) (by rw [← hw_21.2.1]; exact c_22))
              have hL := hL.put ev_26 (by decide)
              refine lv_iconst (v := 1) hx hb dX6_needs_68 (by decide) ?_
              have e29 : v_1 45 2 = v 45 2 := by rw [ev_1, mU_self]; rfl
              have e99 : v 59 = v_1 59 := Eq.symm (by rw [ev_1, mU_ne _ _ (by first | decide | omega)])
              have ck0 : ck p0 = ix_3 := ck_of ex_3 (by omega)
              have ck1 : ck p1 = ix_7 := ck_of ex_7 (by omega)
              have is0 : isS (v 45 2) p0 := isS_of ex_3 (by omega) (by rw [← e29]; exact hlt_3)
              have is1 : isS (v 45 2) p1 := isS_of ex_7 (by omega) (by rw [← e29]; exact hlt_7)
              exact W.zret (v := 1) (ty := .boolean) hx hb hr rfl (fun t ht hW => ⟨⟨1, v_26, rfl, ⟨hB, hL, ⟨⟨by rw [ev_26, mU_ne _ _ (by decide), ev_21, mU_ne _ _ (by decide), ev_1, mU_self]; rfl, by rw [ev_26, mU_ne _ _ (by decide), ev_21, mU_ne _ _ (by decide), ev_1, mU_self]; rfl, (by rw [ev_26, mU_ne _ _ (by first | decide | omega), ev_21, mU_ne _ _ (by first | decide | omega), ev_1, mU_ne _ _ (by first | decide | omega)])⟩, Or.inr ⟨rfl, ⟨is0, is1, fun z => c_14 (by rw [et_13, ← e99, ← ck0, ← ck1]; exact z), fun _ => ⟨c_20, fun z => absurd (hw_21.2.2.2.2.mpr (by rw [ck0, ck1, e99] at z; exact z)) (by rw [c_22]; decide)⟩⟩, by rw [ev_26, mU_self, show v_21 59 = v 59 from (by rw [ev_21, mU_ne _ _ (by first | decide | omega), ev_1, mU_ne _ _ (by first | decide | omega)]), ck0, ck1]⟩⟩⟩, kt_heap ht hP⟩, hS.F ht⟩) hS.2.2 dX6_needs_69
            · refine lv_iconst (v := 0) hx hb dX6_needs_54 (by decide) ?_
              have e29 : v_1 45 2 = v 45 2 := by rw [ev_1, mU_self]; rfl
              have e99 : v 59 = v_1 59 := Eq.symm (by rw [ev_1, mU_ne _ _ (by first | decide | omega)])
              have ck0 : ck p0 = ix_3 := ck_of ex_3 (by omega)
              have ck1 : ck p1 = ix_7 := ck_of ex_7 (by omega)
              have is0 : isS (v 45 2) p0 := isS_of ex_3 (by omega) (by rw [← e29]; exact hlt_3)
              have is1 : isS (v 45 2) p1 := isS_of ex_7 (by omega) (by rw [← e29]; exact hlt_7)
              exact W.zret (v := 0) (ty := .boolean) hx hb hr rfl (fun t ht hW => ⟨⟨0, v_21, rfl, ⟨hB, hL, ⟨⟨by rw [ev_21, mU_ne _ _ (by decide), ev_1, mU_self]; rfl, by rw [ev_21, mU_ne _ _ (by decide), ev_1, mU_self]; rfl, (by rw [ev_21, mU_ne _ _ (by first | decide | omega), ev_1, mU_ne _ _ (by first | decide | omega)])⟩, Or.inl ⟨rfl, (by rw [ev_21, mU_ne _ _ (by first | decide | omega), ev_1, mU_ne _ _ (by first | decide | omega)]), fun z => (z.2.2.2 c_15).2 (by rw [ck0, ck1, e99]; exact hw_21.2.2.2.2.mp (hw_21.2.2.1.resolve_left c_22))⟩⟩⟩, kt_heap ht hP⟩, hS.F ht⟩) hS.2.2 dX6_needs_55
end
